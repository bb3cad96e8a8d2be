/-! the model: operations -/
set_option maxHeartbeats 4000000 in
set_option maxRecDepth 100000 in
theorem c_X10_save (μ : pm_Mm) : pm_CT mi_X10_save [.ref 47] μ (fun v μ2 => v = none ∧ μ2 = pm_row (pm_set (pm_set μ 47 7 0) 47 3 1) 49 (lr_cpy (μ.1 48) (μ.1 49) 0 0 620)) pm_NX := by
  refine pm_CT_of (lo := [some (.ref 47)]) (by decide +kernel) rfl rfl (by intro v hv; simp at hv; rcases hv with rfl <;> rfl) (Nat.le_of_ble_eq_true rfl) rfl ?_
  refine pm_bl [(.aload_n 0, 1, 0, 0, 0), (.iconst 0, 1, 0, 0, 0), (.putfield 35, 3, 10, 7, 0), (.aload_n 0, 1, 0, 0, 0), (.iconst 1, 1, 0, 0, 1), (.putfield 56, 3, 10, 3, 1), (.aload_n 0, 1, 0, 0, 0), (.getfield 7, 3, 10, 0, 0), (.iconst 0, 1, 0, 0, 0), (.aload_n 0, 1, 0, 0, 0), (.getfield 13, 3, 10, 1, 0), (.iconst 0, 1, 0, 0, 0)] (pc1 := 20) (lo1 := [some (.ref 47)]) (st1 := [.int 0, .ref 49, .int 0, .ref 48]) (μ1 := pm_set (pm_set μ 47 7 0) 47 3 1) (vc := (1 = 0 ∨ 1 = 1) ∧ True) rfl (by decide +kernel) rfl ⟨(by first | exact Or.inl rfl | exact Or.inr rfl), trivial⟩ ?_
  refine pm_callS2 mi_X10_copies (ix := 52) (kc2 := 0) (ks2 := 0) (As := [.ref 48, .int 0, .ref 49, .int 0]) (rest := []) (c_X10_cp_48_49 (i := 0) (j := 0) (pm_set (pm_set μ 47 7 0) 47 3 1) rfl rfl (by omega) (by omega)) cal_X10_copies lk10_52 (by decide +kernel) rfl (by decide +kernel) rfl rfl (Nat.le_of_ble_eq_true rfl) (by decide) (by decide) (fun _ _ h9 => h9.elim) ?_
  rintro _ _ ⟨rfl, h9⟩; rw [h9]; clear h9
  show pm_V _ _ _ _ 23 _ [] _
  exact pm_vret rfl (by decide) (by decide) (by decide +kernel) (⟨rfl, by rw [pm_set_off (by decide), pm_set_off (by decide), pm_set_off (by decide), pm_set_off (by decide)]⟩)
set_option maxHeartbeats 4000000 in
set_option maxRecDepth 100000 in
theorem c_X10_restore_no (μ : pm_Mm) (hk : μ.1 47 3 = 0) : pm_CT mi_X10_restore [.ref 47] μ (fun v μ2 => v = none ∧ μ2 = pm_set μ 47 7 1) pm_NX := by
  refine pm_CT_of (lo := [some (.ref 47)]) (by decide +kernel) rfl rfl (by intro v hv; simp at hv; rcases hv with rfl; rfl) (Nat.le_of_ble_eq_true rfl) rfl ?_
  refine pm_bl [(.aload_n 0, 1, 0, 0, 0), (.aload_n 0, 1, 0, 0, 0), (.getfield 56, 3, 10, 3, 0)] (pc1 := 5) (lo1 := [some (.ref 47)]) (st1 := [.int (μ.1 47 3), .ref 47]) (μ1 := μ) (vc := True) rfl (by decide +kernel) rfl trivial ?_
  rw [hk]
  refine pm_if_eq (off := 7) 12 (by decide +kernel) (by decide) (fun _ => ?_) (fun h9 => absurd h9 (by decide))
  refine pm_bl [(.iconst 1, 1, 0, 0, 1), (.putfield 35, 3, 10, 7, 0), (.aload_n 0, 1, 0, 0, 0), (.getfield 56, 3, 10, 3, 0)] (pc1 := 20) (lo1 := [some (.ref 47)]) (st1 := [.int ((pm_set μ 47 7 1).1 47 3)]) (μ1 := pm_set μ 47 7 1) (vc := True) rfl (by decide +kernel) rfl trivial ?_
  rw [show (pm_set μ 47 7 1).1 47 3 = μ.1 47 3 from by rw [pm_set_miss] <;> omega]
  rw [hk]
  refine pm_if_eq (off := 21) 41 (by decide +kernel) (by decide) (fun _ => ?_) (fun h9 => absurd h9 (by decide))
  exact pm_vret rfl (by decide) (by decide) (by decide +kernel) (⟨rfl, by first | rfl | rw [pm_set_off (by decide), pm_set_off (by decide)]⟩)
set_option maxHeartbeats 4000000 in
set_option maxRecDepth 100000 in
theorem c_X10_restore (μ : pm_Mm) (hk : μ.1 47 3 = 1) : pm_CT mi_X10_restore [.ref 47] μ (fun v μ2 => v = none ∧ μ2 = pm_set (pm_row (pm_set μ 47 7 0) 48 (lr_cpy (μ.1 49) (μ.1 48) 0 0 620)) 47 5 0) pm_NX := by
  refine pm_CT_of (lo := [some (.ref 47)]) (by decide +kernel) rfl rfl (by intro v hv; simp at hv; rcases hv with rfl; rfl) (Nat.le_of_ble_eq_true rfl) rfl ?_
  refine pm_bl [(.aload_n 0, 1, 0, 0, 0), (.aload_n 0, 1, 0, 0, 0), (.getfield 56, 3, 10, 3, 0)] (pc1 := 5) (lo1 := [some (.ref 47)]) (st1 := [.int (μ.1 47 3), .ref 47]) (μ1 := μ) (vc := True) rfl (by decide +kernel) rfl trivial ?_
  rw [hk]
  refine pm_if_eq (off := 7) 12 (by decide +kernel) (by decide) (fun h9 => absurd h9 (by decide)) (fun _ => ?_)
  refine pm_bl [(.iconst 0, 1, 0, 0, 0), (.goto 4, 3, 13, 0, 0), (.putfield 35, 3, 10, 7, 0), (.aload_n 0, 1, 0, 0, 0), (.getfield 56, 3, 10, 3, 0)] (pc1 := 20) (lo1 := [some (.ref 47)]) (st1 := [.int ((pm_set μ 47 7 0).1 47 3)]) (μ1 := pm_set μ 47 7 0) (vc := True) rfl (by decide +kernel) rfl trivial ?_
  rw [show (pm_set μ 47 7 0).1 47 3 = μ.1 47 3 from by rw [pm_set_miss] <;> omega]
  rw [hk]
  refine pm_if_eq (off := 21) 41 (by decide +kernel) (by decide) (fun h9 => absurd h9 (by decide)) (fun _ => ?_)
  refine pm_bl [(.aload_n 0, 1, 0, 0, 0), (.getfield 13, 3, 10, 1, 0), (.iconst 0, 1, 0, 0, 0), (.aload_n 0, 1, 0, 0, 0), (.getfield 7, 3, 10, 0, 0), (.iconst 0, 1, 0, 0, 0)] (pc1 := 33) (lo1 := [some (.ref 47)]) (st1 := [.int 0, .ref 48, .int 0, .ref 49]) (μ1 := pm_set μ 47 7 0) (vc := True) rfl (by decide +kernel) rfl trivial ?_
  refine pm_callS2 mi_X10_copies (ix := 52) (kc2 := 0) (ks2 := 0) (As := [.ref 49, .int 0, .ref 48, .int 0]) (rest := []) (c_X10_cp_49_48 (i := 0) (j := 0) (pm_set μ 47 7 0) rfl rfl (by omega) (by omega)) cal_X10_copies lk10_52 (by decide +kernel) rfl (by decide +kernel) rfl rfl (Nat.le_of_ble_eq_true rfl) (by decide) (by decide) (fun _ _ h9 => h9.elim) ?_
  rintro _ _ ⟨rfl, h9⟩; rw [h9]; clear h9
  show pm_V _ _ _ _ 36 _ [] _
  refine pm_bl [(.aload_n 0, 1, 0, 0, 0), (.iconst 0, 1, 0, 0, 0), (.putfield 49, 3, 10, 5, 0)] (pc1 := 41) (lo1 := [some (.ref 47)]) (st1 := []) (μ1 := pm_set (pm_row (pm_set μ 47 7 0) 48 (lr_cpy ((pm_set μ 47 7 0).1 49) ((pm_set μ 47 7 0).1 48) 0 0 620)) 47 5 0) (vc := True) rfl (by decide +kernel) rfl trivial ?_
  exact pm_vret rfl (by decide) (by decide) (by decide +kernel) (⟨rfl, by first | rfl | rw [pm_set_off (by decide), pm_set_off (by decide)]⟩)
set_option maxHeartbeats 4000000 in
set_option maxRecDepth 100000 in
theorem c_X10_undo_no (μ : pm_Mm) (hk : μ.1 47 5 = 0) : pm_CT mi_X10_undo [.ref 47] μ (fun v μ2 => v = some (.int 0) ∧ μ2 = pm_set μ 47 7 1) pm_NX := by
  refine pm_CT_of (lo := [some (.ref 47)]) (by decide +kernel) rfl rfl (by intro v hv; simp at hv; rcases hv with rfl; rfl) (Nat.le_of_ble_eq_true rfl) rfl ?_
  refine pm_bl [(.aload_n 0, 1, 0, 0, 0), (.aload_n 0, 1, 0, 0, 0), (.getfield 49, 3, 10, 5, 0)] (pc1 := 5) (lo1 := [some (.ref 47)]) (st1 := [.int (μ.1 47 5), .ref 47]) (μ1 := μ) (vc := True) rfl (by decide +kernel) rfl trivial ?_
  rw [hk]
  refine pm_if_ne (off := 7) 12 (by decide +kernel) (by decide) (fun h9 => absurd h9 (by decide)) (fun _ => ?_)
  refine pm_bl [(.iconst 1, 1, 0, 0, 1), (.goto 4, 3, 13, 0, 0), (.putfield 35, 3, 10, 7, 0), (.aload_n 0, 1, 0, 0, 0), (.getfield 35, 3, 10, 7, 0)] (pc1 := 20) (lo1 := [some (.ref 47)]) (st1 := [.int ((pm_set μ 47 7 1).1 47 7)]) (μ1 := pm_set μ 47 7 1) (vc := True) rfl (by decide +kernel) rfl trivial ?_
  rw [show (pm_set μ 47 7 1).1 47 7 = 1 from by rw [pm_set_hit] <;> omega]
  refine pm_if_le (off := 5) 25 (by decide +kernel) (by decide) (fun h9 => absurd h9 (by decide)) (fun _ => ?_)
  refine pm_bl [(.iconst 0, 1, 0, 0, 0)] (pc1 := 24) (lo1 := [some (.ref 47)]) (st1 := [.int 0]) (μ1 := pm_set μ 47 7 1) (vc := True) rfl (by decide +kernel) rfl trivial ?_
  exact pm_iret (ty := .int) rfl rfl (by decide) (by decide) (by decide +kernel) (⟨rfl, rfl⟩)
set_option maxHeartbeats 4000000 in
set_option maxRecDepth 100000 in
theorem c_X10_undo {c : Nat} (μ : pm_Mm) (hk : μ.1 47 5 = nI (c + 1)) (hc : c < 8) : pm_CT mi_X10_undo [.ref 47] μ (fun v μ2 => v = some (.int (nI c)) ∧ μ2 = pm_row (pm_set (pm_set μ 47 7 0) 47 5 (nI c)) 48 (lr_cpy (μ.1 51) (μ.1 48) (620 * c) 0 620)) pm_NX := by
  refine pm_CT_of (lo := [some (.ref 47)]) (by decide +kernel) rfl rfl (by intro v hv; simp at hv; rcases hv with rfl; rfl) (Nat.le_of_ble_eq_true rfl) rfl ?_
  refine pm_bl [(.aload_n 0, 1, 0, 0, 0), (.aload_n 0, 1, 0, 0, 0), (.getfield 49, 3, 10, 5, 0)] (pc1 := 5) (lo1 := [some (.ref 47)]) (st1 := [.int (μ.1 47 5), .ref 47]) (μ1 := μ) (vc := True) rfl (by decide +kernel) rfl trivial ?_
  rw [hk]
  refine pm_if_ne (off := 7) 12 (by decide +kernel) (by decide) (fun (h5 : ¬ (nI (c + 1)) = 0) => ?_) (fun (h9 : (nI (c + 1)) = 0) => absurd h9 (nI_ne0 (by omega) (by omega)))
  refine pm_bl [(.iconst 0, 1, 0, 0, 0), (.putfield 35, 3, 10, 7, 0), (.aload_n 0, 1, 0, 0, 0), (.getfield 35, 3, 10, 7, 0)] (pc1 := 20) (lo1 := [some (.ref 47)]) (st1 := [.int ((pm_set μ 47 7 0).1 47 7)]) (μ1 := pm_set μ 47 7 0) (vc := True) rfl (by decide +kernel) rfl trivial ?_
  rw [show (pm_set μ 47 7 0).1 47 7 = 0 from by rw [pm_set_hit] <;> omega]
  refine pm_if_le (off := 5) 25 (by decide +kernel) (by decide) (fun _ => ?_) (fun h9 => absurd h9 (by decide))
  refine pm_bl [(.aload_n 0, 1, 0, 0, 0), (.dup, 1, 0, 0, 0), (.getfield 49, 3, 10, 5, 0)] (pc1 := 30) (lo1 := [some (.ref 47)]) (st1 := [.int ((pm_set μ 47 7 0).1 47 5), .ref 47]) (μ1 := pm_set μ 47 7 0) (vc := True) rfl (by decide +kernel) rfl trivial ?_
  rw [show (pm_set μ 47 7 0).1 47 5 = μ.1 47 5 from by rw [pm_set_miss] <;> omega]
  rw [hk]
  refine pm_bl [(.iconst 1, 1, 0, 0, 1), (.isub, 1, 0, 0, 0), (.putfield 49, 3, 10, 5, 0), (.aload_n 0, 1, 0, 0, 0), (.getfield 19, 3, 10, 4, 0), (.sipush 620, 3, 0, 0, 620), (.aload_n 0, 1, 0, 0, 0), (.getfield 49, 3, 10, 5, 0)] (pc1 := 46) (lo1 := [some (.ref 47)]) (st1 := [.int ((pm_set (pm_set μ 47 7 0) 47 5 ((nI (c + 1)) - 1)).1 47 5), .int 620, .ref 51]) (μ1 := pm_set (pm_set μ 47 7 0) 47 5 ((nI (c + 1)) - 1)) (vc := True) rfl (by decide +kernel) rfl trivial ?_
  rw [show (pm_set (pm_set μ 47 7 0) 47 5 ((nI (c + 1)) - 1)).1 47 5 = (nI (c + 1)) - 1 from by rw [pm_set_hit] <;> omega]
  refine pm_bl [(.imul, 1, 0, 0, 0), (.aload_n 0, 1, 0, 0, 0), (.getfield 7, 3, 10, 0, 0), (.iconst 0, 1, 0, 0, 0)] (pc1 := 52) (lo1 := [some (.ref 47)]) (st1 := [.int 0, .ref 48, .int (620 * ((nI (c + 1)) - 1)), .ref 51]) (μ1 := pm_set (pm_set μ 47 7 0) 47 5 ((nI (c + 1)) - 1)) (vc := True) rfl (by decide +kernel) rfl trivial ?_
  refine pm_callS2 mi_X10_copies (ix := 52) (kc2 := 0) (ks2 := 0) (As := [.ref 51, .int (620 * ((nI (c + 1)) - 1)), .ref 48, .int 0]) (rest := []) (c_X10_cp_51_48 (i := 620 * c) (j := 0) (pm_set (pm_set μ 47 7 0) 47 5 ((nI (c + 1)) - 1)) (by rw [nI_pred]; simp only [nI, Int32.ofNat_mul]; rfl) rfl (by omega) (by omega)) cal_X10_copies lk10_52 (by decide +kernel) rfl (by decide +kernel) rfl rfl (Nat.le_of_ble_eq_true rfl) (by decide) (by decide) (fun _ _ h9 => h9.elim) ?_
  rintro _ _ ⟨rfl, h9⟩; rw [h9]; clear h9
  show pm_V _ _ _ _ 55 _ [] _
  refine pm_bl [(.aload_n 0, 1, 0, 0, 0), (.getfield 49, 3, 10, 5, 0)] (pc1 := 59) (lo1 := [some (.ref 47)]) (st1 := [.int ((pm_row (pm_set (pm_set μ 47 7 0) 47 5 ((nI (c + 1)) - 1)) 48 (lr_cpy ((pm_set (pm_set μ 47 7 0) 47 5 ((nI (c + 1)) - 1)).1 51) ((pm_set (pm_set μ 47 7 0) 47 5 ((nI (c + 1)) - 1)).1 48) (620 * c) 0 620)).1 47 5)]) (μ1 := pm_row (pm_set (pm_set μ 47 7 0) 47 5 ((nI (c + 1)) - 1)) 48 (lr_cpy ((pm_set (pm_set μ 47 7 0) 47 5 ((nI (c + 1)) - 1)).1 51) ((pm_set (pm_set μ 47 7 0) 47 5 ((nI (c + 1)) - 1)).1 48) (620 * c) 0 620)) (vc := True) rfl (by decide +kernel) rfl trivial ?_
  rw [show (pm_row (pm_set (pm_set μ 47 7 0) 47 5 ((nI (c + 1)) - 1)) 48 (lr_cpy ((pm_set (pm_set μ 47 7 0) 47 5 ((nI (c + 1)) - 1)).1 51) ((pm_set (pm_set μ 47 7 0) 47 5 ((nI (c + 1)) - 1)).1 48) (620 * c) 0 620)).1 47 5 = nI c from by rw [pm_row_off (by decide), pm_set_hit, nI_pred]]
  exact pm_iret (ty := .int) rfl rfl (by decide) (by decide) (by decide +kernel) (⟨rfl, by rw [nI_pred, pm_set_off (by decide), pm_set_off (by decide), pm_set_off (by decide), pm_set_off (by decide)]⟩)
