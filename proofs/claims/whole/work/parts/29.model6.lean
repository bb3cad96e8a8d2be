/-! the model: small ones -/
set_option maxHeartbeats 4000000 in
set_option maxRecDepth 100000 in
theorem c_X10_thrown (μ : pm_Mm) : pm_CT mi_X10_thrown [.ref 47] μ (fun v μ2 => v = some (.int (μ.1 47 7)) ∧ μ2 = μ) pm_NX := by
  refine pm_CT_of (lo := [some (.ref 47)]) (by decide +kernel) rfl rfl (by intro v hv; simp at hv; rcases hv with rfl <;> rfl) (Nat.le_of_ble_eq_true rfl) rfl ?_
  refine pm_bl [(.aload_n 0, 1, 0, 0, 0), (.getfield 35, 3, 10, 7, 0)] (pc1 := 4) (lo1 := [some (.ref 47)]) (st1 := [.int (μ.1 47 7)]) (μ1 := μ) (vc := True) rfl (by decide +kernel) rfl trivial ?_
  exact pm_iret (ty := .int) rfl rfl (by decide) (by decide) (by decide +kernel) (⟨rfl, rfl⟩)
set_option maxHeartbeats 4000000 in
set_option maxRecDepth 100000 in
theorem c_X10_fails (x : Int32) (μ : pm_Mm) : pm_CT mi_X10_fails [.ref 47, .int x] μ (fun v μ2 => v = some (.int 0) ∧ μ2 = pm_set μ 47 7 x) pm_NX := by
  refine pm_CT_of (lo := [some (.ref 47), some (.int x)]) (by decide +kernel) rfl rfl (by intro v hv; simp at hv; rcases hv with rfl | rfl <;> rfl) (Nat.le_of_ble_eq_true rfl) rfl ?_
  refine pm_bl [(.aload_n 0, 1, 0, 0, 0), (.iload_n 1, 1, 1, 0, 0), (.putfield 35, 3, 10, 7, 0), (.iconst 0, 1, 0, 0, 0)] (pc1 := 6) (lo1 := [some (.ref 47), some (.int x)]) (st1 := [.int 0]) (μ1 := pm_set μ 47 7 x) (vc := True) rfl (by decide +kernel) rfl trivial ?_
  exact pm_iret (ty := .int) rfl rfl (by decide) (by decide) (by decide +kernel) (⟨rfl, rfl⟩)
set_option maxHeartbeats 4000000 in
set_option maxRecDepth 100000 in
theorem c_X10_refuses (x y : Int32) (μ : pm_Mm) : pm_CT mi_X10_refuses [.ref 47, .int x, .int y] μ (fun v μ2 => v = some (.int 0) ∧ μ2 = pm_set (pm_set μ 47 6 y) 47 7 x) pm_NX := by
  refine pm_CT_of (lo := [some (.ref 47), some (.int x), some (.int y)]) (by decide +kernel) rfl rfl (by intro v hv; simp at hv; rcases hv with rfl | rfl | rfl <;> rfl) (Nat.le_of_ble_eq_true rfl) rfl ?_
  refine pm_bl [(.aload_n 0, 1, 0, 0, 0), (.iload_n 2, 1, 2, 0, 0), (.putfield 38, 3, 10, 6, 0), (.aload_n 0, 1, 0, 0, 0), (.iload_n 1, 1, 1, 0, 0)] (pc1 := 7) (lo1 := [some (.ref 47), some (.int x), some (.int y)]) (st1 := [.int x, .ref 47]) (μ1 := pm_set μ 47 6 y) (vc := True) rfl (by decide +kernel) rfl trivial ?_
  refine pm_callV2 mi_X10_fails (ix := 41) (b := 47) (ci := 10) (kc2 := 0) (ks2 := 0) (As := [.int x]) (rest := []) (c_X10_fails x (pm_set μ 47 6 y)) cal_X10_fails lk10_41 (by decide +kernel) rfl (by decide +kernel) rfl rfl rfl rfl (Nat.le_of_ble_eq_true rfl) (by decide) (by decide) (fun _ _ h9 => h9.elim) ?_
  rintro _ _ ⟨rfl, h9⟩; rw [h9]; clear h9
  show pm_V _ _ _ _ 10 _ [.int 0] _
  exact pm_iret (ty := .int) rfl rfl (by decide) (by decide) (by decide +kernel) (⟨rfl, rfl⟩)
/-- a letter delivered today and without a number yet -/
def lr_nw (g : Nat → Int32) (j : Nat) : Bool := decide (g (294 + 11 * j) = 1) && decide (g (300 + 11 * j) < 0)
set_option maxHeartbeats 4000000 in
set_option maxRecDepth 100000 in
theorem c_X10_isNew {g : Nat → Int32} {j : Nat} (μ : pm_Mm) (hM : μ.1 48 = g) (hG : lr_G g) (hj : j < lr_n g 289) : pm_CT mi_X10_isNew [.ref 47, .int (nI j)] μ (fun v μ2 => v = some (.int (lr_b (lr_nw g j))) ∧ μ2 = μ) pm_NX := by
  refine pm_CT_of (lo := [some (.ref 47), some (.int (nI j))]) (by decide +kernel) rfl rfl (by intro v hv; simp at hv; rcases hv with rfl | rfl <;> rfl) (Nat.le_of_ble_eq_true rfl) rfl ?_
  have hm1 := lr_mh hG; have hm2 := lr_mw hG; have hm3 := lr_mp hG; have hm4 := lr_mr hG; have hm5 := lr_ma hG; have hm6 := lr_ml hG
  refine pm_bl [(.aload_n 0, 1, 0, 0, 0), (.getfield 7, 3, 10, 0, 0), (.iload_n 1, 1, 1, 0, 0), (.iconst 4, 1, 0, 0, 4)] (pc1 := 6) (lo1 := [some (.ref 47), some (.int (nI j))]) (st1 := [.int 4, .int (nI j), .ref 48]) (μ1 := μ) (vc := True) rfl (by decide +kernel) rfl trivial ?_
  refine pm_callS2 mi_X10_at (ix := 127) (kc2 := 0) (ks2 := 0) (As := [.int (nI j), .int 4]) (rest := [.ref 48]) (c_X10_at (k := j) (c := 4) (n := 294 + 11 * j) μ (by omega)) cal_X10_at lk10_127 (by decide +kernel) rfl (by decide +kernel) rfl rfl (Nat.le_of_ble_eq_true rfl) (by decide) (by decide) (fun _ _ h9 => h9.elim) ?_
  rintro _ _ ⟨rfl, h9⟩; rw [h9]; clear h9
  show pm_V _ _ _ _ 9 _ [.int (nI (294 + 11 * j)), .ref 48] _
  refine pm_bl [(.iaload, 1, 0, 0, 0)] (pc1 := 10) (lo1 := [some (.ref 47), some (.int (nI j))]) (st1 := [.int (μ.1 48 (nI (294 + 11 * j)).toNatClampNeg)]) (μ1 := μ) (vc := vp_in (nI (294 + 11 * j)) 620 ∧ True) rfl (by decide +kernel) rfl ⟨(vp_in_nI (by omega) (by omega)), trivial⟩ ?_
  first | rw [nI_clamp (n := 294 + 11 * j) (by omega), hM] | rw [hM]
  refine pm_bl [(.iconst 1, 1, 0, 0, 1)] (pc1 := 11) (lo1 := [some (.ref 47), some (.int (nI j))]) (st1 := [.int 1, .int (g (294 + 11 * j))]) (μ1 := μ) (vc := True) rfl (by decide +kernel) rfl trivial ?_
  refine pm_icmp_ne (off := 21) 32 (by decide +kernel) (by decide) (fun (h11 : ¬ (g (294 + 11 * j)) = 1) => ?_) (fun (h11 : (g (294 + 11 * j)) = 1) => ?_)
  · refine pm_bl [(.iconst 0, 1, 0, 0, 0)] (pc1 := 33) (lo1 := [some (.ref 47), some (.int (nI j))]) (st1 := [.int 0]) (μ1 := μ) (vc := True) rfl (by decide +kernel) rfl trivial ?_
    exact pm_iret (ty := .boolean) rfl (rfl) (by decide) (by decide) (by decide +kernel) (⟨by unfold lr_nw lr_b; simp_all, rfl⟩)
  · refine pm_bl [(.aload_n 0, 1, 0, 0, 0), (.getfield 7, 3, 10, 0, 0), (.iload_n 1, 1, 1, 0, 0), (.bipush 10, 2, 0, 0, 10)] (pc1 := 21) (lo1 := [some (.ref 47), some (.int (nI j))]) (st1 := [.int 10, .int (nI j), .ref 48]) (μ1 := μ) (vc := True) rfl (by decide +kernel) rfl trivial ?_
    refine pm_callS2 mi_X10_at (ix := 127) (kc2 := 0) (ks2 := 0) (As := [.int (nI j), .int 10]) (rest := [.ref 48]) (c_X10_at (k := j) (c := 10) (n := 300 + 11 * j) μ (by omega)) cal_X10_at lk10_127 (by decide +kernel) rfl (by decide +kernel) rfl rfl (Nat.le_of_ble_eq_true rfl) (by decide) (by decide) (fun _ _ h9 => h9.elim) ?_
    rintro _ _ ⟨rfl, h9⟩; rw [h9]; clear h9
    show pm_V _ _ _ _ 24 _ [.int (nI (300 + 11 * j)), .ref 48] _
    refine pm_bl [(.iaload, 1, 0, 0, 0)] (pc1 := 25) (lo1 := [some (.ref 47), some (.int (nI j))]) (st1 := [.int (μ.1 48 (nI (300 + 11 * j)).toNatClampNeg)]) (μ1 := μ) (vc := vp_in (nI (300 + 11 * j)) 620 ∧ True) rfl (by decide +kernel) rfl ⟨(vp_in_nI (by omega) (by omega)), trivial⟩ ?_
    first | rw [nI_clamp (n := 300 + 11 * j) (by omega), hM] | rw [hM]
    refine pm_if_ge (off := 7) 32 (by decide +kernel) (by decide) (fun (h25 : 0 ≤ (g (300 + 11 * j))) => ?_) (fun (h25 : ¬ (0 ≤ (g (300 + 11 * j)))) => ?_)
    · refine pm_bl [(.iconst 0, 1, 0, 0, 0)] (pc1 := 33) (lo1 := [some (.ref 47), some (.int (nI j))]) (st1 := [.int 0]) (μ1 := μ) (vc := True) rfl (by decide +kernel) rfl trivial ?_
      exact pm_iret (ty := .boolean) rfl (rfl) (by decide) (by decide) (by decide +kernel) (⟨by unfold lr_nw lr_b; simp_all, rfl⟩)
    · refine pm_bl [(.iconst 1, 1, 0, 0, 1), (.goto 4, 3, 33, 0, 0)] (pc1 := 33) (lo1 := [some (.ref 47), some (.int (nI j))]) (st1 := [.int 1]) (μ1 := μ) (vc := True) rfl (by decide +kernel) rfl trivial ?_
      exact pm_iret (ty := .boolean) rfl (rfl) (by decide) (by decide) (by decide +kernel) (⟨by unfold lr_nw lr_b; simp_all, rfl⟩)
theorem lr_be_1 {k n : Nat} (h : k < n) (hn : n < 2 ^ 30) : lr_be (nI k) (nI n) = true := by rw [lr_be_nI (by omega) (by omega)]; exact decide_eq_true h
set_option maxHeartbeats 4000000 in
set_option maxRecDepth 100000 in
theorem c_X10_walkOf_no {g : Nat → Int32} {x : Int32} (μ : pm_Mm) (hM : μ.1 48 = g) (hG : lr_G g) (hb : lr_be x (nI (lr_n g 2)) = false) : pm_CT mi_X10_walkOf [.ref 47, .int x] μ (fun v μ2 => v = some (.int 0) ∧ μ2 = pm_set μ 47 7 1) pm_NX := by
  refine pm_CT_of (lo := [some (.ref 47), some (.int x)]) (by decide +kernel) rfl rfl (by intro v hv; simp at hv; rcases hv with rfl | rfl <;> rfl) (Nat.le_of_ble_eq_true rfl) rfl ?_
  have hm1 := lr_mh hG; have hm2 := lr_mw hG; have hm3 := lr_mp hG; have hm4 := lr_mr hG; have hm5 := lr_ma hG; have hm6 := lr_ml hG
  refine pm_bl [(.aload_n 0, 1, 0, 0, 0), (.aload_n 0, 1, 0, 0, 0), (.iload_n 1, 1, 1, 0, 0)] (pc1 := 3) (lo1 := [some (.ref 47), some (.int x)]) (st1 := [.int x, .ref 47, .ref 47]) (μ1 := μ) (vc := True) rfl (by decide +kernel) rfl trivial ?_
  refine pm_callV2 mi_X10_isHouse (ix := 70) (b := 47) (ci := 10) (kc2 := 0) (ks2 := 0) (As := [.int x]) (rest := [.ref 47]) (c_X10_isHouse x μ hM hG) cal_X10_isHouse lk10_70 (by decide +kernel) rfl (by decide +kernel) rfl rfl rfl rfl (Nat.le_of_ble_eq_true rfl) (by decide) (by decide) (fun _ _ h9 => h9.elim) ?_
  rintro _ _ ⟨rfl, h9⟩; rw [h9]; clear h9
  show pm_V _ _ _ _ 6 _ [.int (lr_b (lr_be x (nI (lr_n g 2)))), .ref 47] _
  refine pm_ifb_eq (off := 7) 13 (by decide +kernel) (by decide) (fun (h6 : (lr_be x (nI (lr_n g 2))) = false) => ?_) (fun (h9 : (lr_be x (nI (lr_n g 2))) = true) => absurd (hb.symm.trans h9) (by decide))
  refine pm_bl [(.iconst 1, 1, 0, 0, 1), (.putfield 35, 3, 10, 7, 0), (.aload_n 0, 1, 0, 0, 0), (.getfield 35, 3, 10, 7, 0)] (pc1 := 21) (lo1 := [some (.ref 47), some (.int x)]) (st1 := [.int ((pm_set μ 47 7 1).1 47 7)]) (μ1 := pm_set μ 47 7 1) (vc := True) rfl (by decide +kernel) rfl trivial ?_
  rw [show (pm_set μ 47 7 1).1 47 7 = 1 from by rw [pm_set_hit] <;> omega]
  refine pm_if_le (off := 7) 28 (by decide +kernel) (by decide) (fun h9 => absurd h9 (by decide)) (fun _ => ?_)
  refine pm_bl [(.iconst 0, 1, 0, 0, 0), (.goto 8, 3, 33, 0, 0)] (pc1 := 33) (lo1 := [some (.ref 47), some (.int x)]) (st1 := [.int 0]) (μ1 := pm_set μ 47 7 1) (vc := True) rfl (by decide +kernel) rfl trivial ?_
  exact pm_iret (ty := .int) rfl rfl (by decide) (by decide) (by decide +kernel) (⟨rfl, rfl⟩)
set_option maxHeartbeats 4000000 in
set_option maxRecDepth 100000 in
theorem c_X10_walkOf {g : Nat → Int32} {h : Nat} (μ : pm_Mm) (hM : μ.1 48 = g) (hG : lr_G g) (hh : h < lr_n g 2) : pm_CT mi_X10_walkOf [.ref 47, .int (nI h)] μ (fun v μ2 => v = some (.int (lr_sv g h)) ∧ μ2 = pm_set μ 47 7 0) pm_NX := by
  refine pm_CT_of (lo := [some (.ref 47), some (.int (nI h))]) (by decide +kernel) rfl rfl (by intro v hv; simp at hv; rcases hv with rfl | rfl <;> rfl) (Nat.le_of_ble_eq_true rfl) rfl ?_
  have hm1 := lr_mh hG; have hm2 := lr_mw hG; have hm3 := lr_mp hG; have hm4 := lr_mr hG; have hm5 := lr_ma hG; have hm6 := lr_ml hG
  refine pm_bl [(.aload_n 0, 1, 0, 0, 0), (.aload_n 0, 1, 0, 0, 0), (.iload_n 1, 1, 1, 0, 0)] (pc1 := 3) (lo1 := [some (.ref 47), some (.int (nI h))]) (st1 := [.int (nI h), .ref 47, .ref 47]) (μ1 := μ) (vc := True) rfl (by decide +kernel) rfl trivial ?_
  refine pm_callV2 mi_X10_isHouse (ix := 70) (b := 47) (ci := 10) (kc2 := 0) (ks2 := 0) (As := [.int (nI h)]) (rest := [.ref 47]) (c_X10_isHouse (nI h) μ hM hG) cal_X10_isHouse lk10_70 (by decide +kernel) rfl (by decide +kernel) rfl rfl rfl rfl (Nat.le_of_ble_eq_true rfl) (by decide) (by decide) (fun _ _ h9 => h9.elim) ?_
  rintro _ _ ⟨rfl, h9⟩; rw [h9]; clear h9
  show pm_V _ _ _ _ 6 _ [.int (lr_b (lr_be (nI h) (nI (lr_n g 2)))), .ref 47] _
  refine pm_ifb_eq (off := 7) 13 (by decide +kernel) (by decide) (fun (h9 : (lr_be (nI h) (nI (lr_n g 2))) = false) => absurd (h9.symm.trans (lr_be_1 hh (by omega))) (by decide)) (fun (h6 : (lr_be (nI h) (nI (lr_n g 2))) = true) => ?_)
  refine pm_bl [(.iconst 0, 1, 0, 0, 0), (.goto 4, 3, 14, 0, 0), (.putfield 35, 3, 10, 7, 0), (.aload_n 0, 1, 0, 0, 0), (.getfield 35, 3, 10, 7, 0)] (pc1 := 21) (lo1 := [some (.ref 47), some (.int (nI h))]) (st1 := [.int ((pm_set μ 47 7 0).1 47 7)]) (μ1 := pm_set μ 47 7 0) (vc := True) rfl (by decide +kernel) rfl trivial ?_
  rw [show (pm_set μ 47 7 0).1 47 7 = 0 from by rw [pm_set_hit] <;> omega]
  refine pm_if_le (off := 7) 28 (by decide +kernel) (by decide) (fun _ => ?_) (fun h9 => absurd h9 (by decide))
  refine pm_bl [(.aload_n 0, 1, 0, 0, 0), (.iload_n 1, 1, 1, 0, 0)] (pc1 := 30) (lo1 := [some (.ref 47), some (.int (nI h))]) (st1 := [.int (nI h), .ref 47]) (μ1 := pm_set μ 47 7 0) (vc := True) rfl (by decide +kernel) rfl trivial ?_
  refine pm_callV2 mi_X10_serving (ix := 78) (b := 47) (ci := 10) (kc2 := 0) (ks2 := 0) (As := [.int (nI h)]) (rest := []) (c_X10_serving (h := h) (pm_set μ 47 7 0) (by rw [pm_set_off (by decide)]; exact hM) hG hh) cal_X10_serving lk10_78 (by decide +kernel) rfl (by decide +kernel) rfl rfl rfl rfl (Nat.le_of_ble_eq_true rfl) (by decide) (by decide) (fun _ _ h9 => h9.elim) ?_
  rintro _ _ ⟨rfl, h9⟩; rw [h9]; clear h9
  show pm_V _ _ _ _ 33 _ [.int (lr_sv g h)] _
  exact pm_iret (ty := .int) rfl rfl (by decide) (by decide) (by decide +kernel) (⟨rfl, rfl⟩)
set_option maxHeartbeats 4000000 in
set_option maxRecDepth 100000 in
theorem c_X10_stopIndex_no1 {g : Nat → Int32} {x : Int32} (μ : pm_Mm) (hM : μ.1 48 = g) (hG : lr_G g) (hb : lr_be x (nI (lr_n g 2)) = false) : pm_CT mi_X10_stopIndex [.ref 47, .int x] μ (fun v μ2 => v = some (.int 0) ∧ μ2 = pm_set μ 47 7 1) pm_NX := by
  refine pm_CT_of (lo := [some (.ref 47), some (.int x)]) (by decide +kernel) rfl rfl (by intro v hv; simp at hv; rcases hv with rfl | rfl <;> rfl) (Nat.le_of_ble_eq_true rfl) rfl ?_
  have hm1 := lr_mh hG; have hm2 := lr_mw hG; have hm3 := lr_mp hG; have hm4 := lr_mr hG; have hm5 := lr_ma hG; have hm6 := lr_ml hG
  refine pm_bl [(.aload_n 0, 1, 0, 0, 0), (.aload_n 0, 1, 0, 0, 0), (.iload_n 1, 1, 1, 0, 0)] (pc1 := 3) (lo1 := [some (.ref 47), some (.int x)]) (st1 := [.int x, .ref 47, .ref 47]) (μ1 := μ) (vc := True) rfl (by decide +kernel) rfl trivial ?_
  refine pm_callV2 mi_X10_isHouse (ix := 70) (b := 47) (ci := 10) (kc2 := 0) (ks2 := 0) (As := [.int x]) (rest := [.ref 47]) (c_X10_isHouse x μ hM hG) cal_X10_isHouse lk10_70 (by decide +kernel) rfl (by decide +kernel) rfl rfl rfl rfl (Nat.le_of_ble_eq_true rfl) (by decide) (by decide) (fun _ _ h9 => h9.elim) ?_
  rintro _ _ ⟨rfl, h9⟩; rw [h9]; clear h9
  show pm_V _ _ _ _ 6 _ [.int (lr_b (lr_be x (nI (lr_n g 2)))), .ref 47] _
  refine pm_ifb_ne (off := 7) 13 (by decide +kernel) (by decide) (fun (h9 : (lr_be x (nI (lr_n g 2))) = true) => absurd (hb.symm.trans h9) (by decide)) (fun (h6 : (lr_be x (nI (lr_n g 2))) = false) => ?_)
  refine pm_bl [(.iconst 1, 1, 0, 0, 1), (.goto 16, 3, 26, 0, 0), (.putfield 35, 3, 10, 7, 0), (.aload_n 0, 1, 0, 0, 0), (.getfield 35, 3, 10, 7, 0)] (pc1 := 33) (lo1 := [some (.ref 47), some (.int x)]) (st1 := [.int ((pm_set μ 47 7 1).1 47 7)]) (μ1 := pm_set μ 47 7 1) (vc := True) rfl (by decide +kernel) rfl trivial ?_
  rw [show (pm_set μ 47 7 1).1 47 7 = 1 from by rw [pm_set_hit] <;> omega]
  refine pm_if_le (off := 7) 40 (by decide +kernel) (by decide) (fun h9 => absurd h9 (by decide)) (fun _ => ?_)
  refine pm_bl [(.iconst 0, 1, 0, 0, 0), (.goto 8, 3, 45, 0, 0)] (pc1 := 45) (lo1 := [some (.ref 47), some (.int x)]) (st1 := [.int 0]) (μ1 := pm_set μ 47 7 1) (vc := True) rfl (by decide +kernel) rfl trivial ?_
  exact pm_iret (ty := .int) rfl rfl (by decide) (by decide) (by decide +kernel) (⟨rfl, rfl⟩)
