/-! the class: undo, save, restore -/
set_option maxHeartbeats 4000000 in
set_option maxRecDepth 100000 in
theorem c_X9_undo_no {g : Nat → Int32} (μ : pm_Mm) (hR : lr_Rel μ.1 1 g) (hG : lr_G g) (hc : μ.1 45 0 = 0) : pm_CT mi_X9_undo [.ref 0] μ (fun _ _ => False) (fun E μ2 => E = "java/lang/IllegalStateException" ∧ μ2 = μ) := by
  refine pm_CT_of (lo := [some (.ref 0)]) (by decide +kernel) rfl rfl (by intro v hv; simp at hv; rcases hv with rfl <;> rfl) (Nat.le_of_ble_eq_true rfl) rfl ?_
  have hm1 := lr_mh hG; have hm2 := lr_mw hG; have hm3 := lr_mp hG; have hm4 := lr_mr hG; have hm5 := lr_ma hG; have hm6 := lr_ml hG
  refine pm_bl [(.aload_n 0, 1, 0, 0, 0), (.getfield 19, 3, 9, 1, 0), (.getfield 351, 3, 2, 0, 0)] (pc1 := 7) (lo1 := [some (.ref 0)]) (st1 := [.int (μ.1 45 0)]) (μ1 := μ) (vc := True) rfl (by decide +kernel) rfl trivial ?_
  rw [hc]
  refine pm_if_ne (off := 14) 21 (by decide +kernel) (by decide) (fun h9 => absurd h9 (by decide)) (fun _ => ?_)
  exact pm_throwW (is := 352) (tx := "no change is kept") pm_exIS rfl (by decide +kernel) rfl (by decide +kernel) (by decide +kernel) (by decide +kernel) (by decide +kernel) (by decide +kernel) (by decide) (by decide) (⟨rfl, rfl⟩)
set_option maxHeartbeats 4000000 in
set_option maxRecDepth 100000 in
theorem c_X9_undo {c n : Nat} {F : Nat → Nat → Int32} (μ : pm_Mm) (hH : lr_Hs μ.1 (c + 1) n F) (hB : lr_B (F c)) : pm_CT mi_X9_undo [.ref 0] μ (fun v μ2 => v = some (.int (nI c)) ∧ lr_fc μ μ2 ∧ lr_Rel μ2.1 1 (F c) ∧ lr_Hs μ2.1 c ((n + 7) % 8) F) pm_NX := by
  refine pm_CT_of (lo := [some (.ref 0)]) (by decide +kernel) rfl rfl (by intro v hv; simp at hv; rcases hv with rfl; rfl) (Nat.le_of_ble_eq_true rfl) rfl ?_
  have hc8 := hH.1
  refine pm_bl [(.aload_n 0, 1, 0, 0, 0), (.getfield 19, 3, 9, 1, 0), (.getfield 351, 3, 2, 0, 0)] (pc1 := 7) (lo1 := [some (.ref 0)]) (st1 := [.int (μ.1 45 0)]) (μ1 := μ) (vc := True) rfl (by decide +kernel) rfl trivial ?_
  rw [hH.2.2.1]
  refine pm_if_ne (off := 14) 21 (by decide +kernel) (by decide) (fun (h7 : ¬ (nI (c + 1)) = 0) => ?_) (fun (h9 : (nI (c + 1)) = 0) => absurd h9 (nI_ne0 (by omega) (by omega)))
  refine pm_bl [(.aload_n 0, 1, 0, 0, 0), (.getfield 19, 3, 9, 1, 0), (.aload_n 0, 1, 0, 0, 0), (.getfield 10, 3, 9, 0, 0)] (pc1 := 29) (lo1 := [some (.ref 0)]) (st1 := [.ref 1, .ref 45]) (μ1 := μ) (vc := True) rfl (by decide +kernel) rfl trivial ?_
  refine pm_callV2 mi_X2_takeBack (ix := 354) (b := 45) (ci := 2) (kc2 := 0) (ks2 := 0) (As := [.ref 1]) (rest := []) (c_X2_takeBack (g := F c) (c := c) (n := n) μ hH.2.1 (by have q := hH.2.2.2.2 c (by omega); rw [show (n + 8 - (c + 1) + c) % 8 = (n + 7) % 8 from by omega] at q; exact q) hB hH.2.2.2.1 hH.2.2.1) cal_X2_takeBack lk9_354 (by decide +kernel) rfl (by decide +kernel) rfl rfl rfl rfl (Nat.le_of_ble_eq_true rfl) (by decide) (by decide) (fun _ _ h9 => h9.elim) ?_
  rintro _ μ1 ⟨rfl, h2k, hfk, hRk, hck, hnk⟩
  obtain ⟨hFC, hH1⟩ := lr_back_ok hH h2k hfk hck hnk
  show pm_V _ _ _ _ 32 _ [] _
  refine pm_bl [(.aload_n 0, 1, 0, 0, 0), (.getfield 19, 3, 9, 1, 0), (.getfield 351, 3, 2, 0, 0)] (pc1 := 39) (lo1 := [some (.ref 0)]) (st1 := [.int (μ1.1 45 0)]) (μ1 := μ1) (vc := True) rfl (by decide +kernel) rfl trivial ?_
  rw [hck]
  exact pm_iret (ty := .int) rfl rfl (by decide) (by decide) (by decide +kernel) (⟨rfl, hFC, hRk, hH1⟩)
set_option maxHeartbeats 4000000 in
set_option maxRecDepth 100000 in
theorem c_X9_save {g : Nat → Int32} (μ : pm_Mm) (hR : lr_Rel μ.1 1 g) (hG : lr_G g) : pm_CT mi_X9_save [.ref 0] μ (fun v μ2 => v = none ∧ ∃ M, (∀ i, (i < 57 ∨ 95 < i) → M.1 i = μ.1 i) ∧ M.2 = μ.2 ∧ lr_Rel M.1 57 g ∧ μ2 = pm_set M 0 3 1) pm_NX := by
  refine pm_CT_of (lo := [some (.ref 0)]) (by decide +kernel) rfl rfl (by intro v hv; simp at hv; rcases hv with rfl <;> rfl) (Nat.le_of_ble_eq_true rfl) rfl ?_
  have hm1 := lr_mh hG; have hm2 := lr_mw hG; have hm3 := lr_mp hG; have hm4 := lr_mr hG; have hm5 := lr_ma hG; have hm6 := lr_ml hG
  refine pm_bl [(.aload_n 0, 1, 0, 0, 0), (.getfield 23, 3, 9, 2, 0), (.aload_n 0, 1, 0, 0, 0), (.getfield 10, 3, 9, 0, 0)] (pc1 := 8) (lo1 := [some (.ref 0)]) (st1 := [.ref 1, .ref 57]) (μ1 := μ) (vc := True) rfl (by decide +kernel) rfl trivial ?_
  refine pm_callV2 mi_X5_copyFrom (ix := 357) (b := 57) (ci := 5) (kc2 := 0) (ks2 := 0) (As := [.ref 1]) (rest := []) (c_X5_copyFrom_57_1 μ hR hG.B) cal_X5_copyFrom lk9_357 (by decide +kernel) rfl (by decide +kernel) rfl rfl rfl rfl (Nat.le_of_ble_eq_true rfl) (by decide) (by decide) (fun _ _ h9 => h9.elim) ?_
  rintro _ μ1 ⟨rfl, h2k, hfk, hRk⟩
  show pm_V _ _ _ _ 11 _ [] _
  refine pm_bl [(.aload_n 0, 1, 0, 0, 0), (.iconst 1, 1, 0, 0, 1), (.putfield 26, 3, 9, 3, 1)] (pc1 := 16) (lo1 := [some (.ref 0)]) (st1 := []) (μ1 := pm_set μ1 0 3 1) (vc := (1 = 0 ∨ 1 = 1) ∧ True) rfl (by decide +kernel) rfl ⟨(by first | exact Or.inl rfl | exact Or.inr rfl), trivial⟩ ?_
  exact pm_vret rfl (by decide) (by decide) (by decide +kernel) (⟨rfl, μ1, hfk, h2k, hRk, rfl⟩)
set_option maxHeartbeats 4000000 in
set_option maxRecDepth 100000 in
theorem c_X9_restore_no {k : Nat → Int32} (μ : pm_Mm) (hs : μ.1 0 3 = 0) : pm_CT mi_X9_restore [.ref 0] μ (fun _ _ => False) (fun E μ2 => E = "java/lang/IllegalStateException" ∧ μ2 = μ) := by
  refine pm_CT_of (lo := [some (.ref 0)]) (by decide +kernel) rfl rfl (by intro v hv; simp at hv; rcases hv with rfl; rfl) (Nat.le_of_ble_eq_true rfl) rfl ?_
  refine pm_bl [(.aload_n 0, 1, 0, 0, 0), (.getfield 26, 3, 9, 3, 0)] (pc1 := 4) (lo1 := [some (.ref 0)]) (st1 := [.int (μ.1 0 3)]) (μ1 := μ) (vc := True) rfl (by decide +kernel) rfl trivial ?_
  rw [hs]
  refine pm_if_ne (off := 14) 18 (by decide +kernel) (by decide) (fun h9 => absurd h9 (by decide)) (fun _ => ?_)
  exact pm_throwW (is := 360) (tx := "there is no snapshot") pm_exIS rfl (by decide +kernel) rfl (by decide +kernel) (by decide +kernel) (by decide +kernel) (by decide +kernel) (by decide +kernel) (by decide) (by decide) (⟨rfl, rfl⟩)
set_option maxHeartbeats 4000000 in
set_option maxRecDepth 100000 in
theorem c_X9_restore {k : Nat → Int32} (μ : pm_Mm) (hs : μ.1 0 3 = 1) (hR : lr_Rel μ.1 57 k) (hB : lr_B k) : pm_CT mi_X9_restore [.ref 0] μ (fun v μ2 => v = none ∧ ∃ M, (∀ i, (i < 1 ∨ 39 < i) → M.1 i = μ.1 i) ∧ M.2 = μ.2 ∧ lr_Rel M.1 1 k ∧ μ2 = pm_set M 45 0 0) pm_NX := by
  refine pm_CT_of (lo := [some (.ref 0)]) (by decide +kernel) rfl rfl (by intro v hv; simp at hv; rcases hv with rfl; rfl) (Nat.le_of_ble_eq_true rfl) rfl ?_
  refine pm_bl [(.aload_n 0, 1, 0, 0, 0), (.getfield 26, 3, 9, 3, 0)] (pc1 := 4) (lo1 := [some (.ref 0)]) (st1 := [.int (μ.1 0 3)]) (μ1 := μ) (vc := True) rfl (by decide +kernel) rfl trivial ?_
  rw [hs]
  refine pm_if_ne (off := 14) 18 (by decide +kernel) (by decide) (fun _ => ?_) (fun h9 => absurd h9 (by decide))
  refine pm_bl [(.aload_n 0, 1, 0, 0, 0), (.getfield 10, 3, 9, 0, 0), (.aload_n 0, 1, 0, 0, 0), (.getfield 23, 3, 9, 2, 0)] (pc1 := 26) (lo1 := [some (.ref 0)]) (st1 := [.ref 57, .ref 1]) (μ1 := μ) (vc := True) rfl (by decide +kernel) rfl trivial ?_
  refine pm_callV2 mi_X5_copyFrom (ix := 357) (b := 1) (ci := 5) (kc2 := 0) (ks2 := 0) (As := [.ref 57]) (rest := []) (c_X5_copyFrom_1_57 μ hR hB) cal_X5_copyFrom lk9_357 (by decide +kernel) rfl (by decide +kernel) rfl rfl rfl rfl (Nat.le_of_ble_eq_true rfl) (by decide) (by decide) (fun _ _ h9 => h9.elim) ?_
  rintro _ μ1 ⟨rfl, h2k, hfk, hRk⟩
  show pm_V _ _ _ _ 29 _ [] _
  refine pm_bl [(.aload_n 0, 1, 0, 0, 0), (.getfield 19, 3, 9, 1, 0)] (pc1 := 33) (lo1 := [some (.ref 0)]) (st1 := [.ref 45]) (μ1 := μ1) (vc := True) rfl (by decide +kernel) rfl trivial ?_
  refine pm_callV2 mi_X2_forget (ix := 362) (b := 45) (ci := 2) (kc2 := 0) (ks2 := 0) (As := []) (rest := []) (c_X2_forget μ1) cal_X2_forget lk9_362 (by decide +kernel) rfl (by decide +kernel) rfl rfl rfl rfl (Nat.le_of_ble_eq_true rfl) (by decide) (by decide) (fun _ _ h9 => h9.elim) ?_
  rintro _ _ ⟨rfl, h9⟩; rw [h9]; clear h9
  show pm_V _ _ _ _ 36 _ [] _
  exact pm_vret rfl (by decide) (by decide) (by decide +kernel) (⟨rfl, μ1, hfk, h2k, hRk, rfl⟩)
set_option maxHeartbeats 4000000 in
set_option maxRecDepth 100000 in
theorem c_X9_faultPosition {g : Nat → Int32} (μ : pm_Mm) (hR : lr_Rel μ.1 1 g) (hG : lr_G g) : pm_CT mi_X9_faultPosition [.ref 0] μ (fun v μ2 => v = some (.int (μ.1 0 5)) ∧ μ2 = μ) pm_NX := by
  refine pm_CT_of (lo := [some (.ref 0)]) (by decide +kernel) rfl rfl (by intro v hv; simp at hv; rcases hv with rfl <;> rfl) (Nat.le_of_ble_eq_true rfl) rfl ?_
  have hm1 := lr_mh hG; have hm2 := lr_mw hG; have hm3 := lr_mp hG; have hm4 := lr_mr hG; have hm5 := lr_ma hG; have hm6 := lr_ml hG
  refine pm_bl [(.aload_n 0, 1, 0, 0, 0), (.getfield 37, 3, 9, 5, 0)] (pc1 := 4) (lo1 := [some (.ref 0)]) (st1 := [.int (μ.1 0 5)]) (μ1 := μ) (vc := True) rfl (by decide +kernel) rfl trivial ?_
  exact pm_iret (ty := .int) rfl rfl (by decide) (by decide) (by decide +kernel) (⟨rfl, rfl⟩)
set_option maxHeartbeats 4000000 in
set_option maxRecDepth 100000 in
theorem c_X9_refusal_no {g : Nat → Int32} (μ : pm_Mm) (hR : lr_Rel μ.1 1 g) (hG : lr_G g) (hr : μ.1 0 6 = -1) : pm_CT mi_X9_refusal [.ref 0] μ (fun _ _ => False) (fun E μ2 => E = "java/util/NoSuchElementException" ∧ μ2 = μ) := by
  refine pm_CT_of (lo := [some (.ref 0)]) (by decide +kernel) rfl rfl (by intro v hv; simp at hv; rcases hv with rfl <;> rfl) (Nat.le_of_ble_eq_true rfl) rfl ?_
  have hm1 := lr_mh hG; have hm2 := lr_mw hG; have hm3 := lr_mp hG; have hm4 := lr_mr hG; have hm5 := lr_ma hG; have hm6 := lr_ml hG
  refine pm_bl [(.aload_n 0, 1, 0, 0, 0), (.getfield 41, 3, 9, 6, 0)] (pc1 := 4) (lo1 := [some (.ref 0)]) (st1 := [.int (μ.1 0 6)]) (μ1 := μ) (vc := True) rfl (by decide +kernel) rfl trivial ?_
  refine pm_bl [(.iconst (-1), 1, 0, 0, (-1))] (pc1 := 5) (lo1 := [some (.ref 0)]) (st1 := [.int (-1), .int (μ.1 0 6)]) (μ1 := μ) (vc := True) rfl (by decide +kernel) rfl trivial ?_
  refine pm_icmp_ne (off := 14) 19 (by decide +kernel) (by decide) (fun (h9 : ¬ (μ.1 0 6) = (-1)) => absurd hr h9) (fun (h5 : (μ.1 0 6) = (-1)) => ?_)
  exact pm_throwXW (is := 280) (tx := "no call was refused") pm_exNS rfl (by decide +kernel) rfl (by decide +kernel) (by decide +kernel) (by decide +kernel) (by decide +kernel) (by decide +kernel) (by decide) (by decide) (⟨rfl, rfl⟩)
set_option maxHeartbeats 4000000 in
set_option maxRecDepth 100000 in
theorem c_X9_refusal {g : Nat → Int32} (μ : pm_Mm) (hR : lr_Rel μ.1 1 g) (hG : lr_G g) (hr : ¬ μ.1 0 6 = -1) : pm_CT mi_X9_refusal [.ref 0] μ (fun v μ2 => v = some (.int (μ.1 0 6)) ∧ μ2 = μ) pm_NX := by
  refine pm_CT_of (lo := [some (.ref 0)]) (by decide +kernel) rfl rfl (by intro v hv; simp at hv; rcases hv with rfl <;> rfl) (Nat.le_of_ble_eq_true rfl) rfl ?_
  have hm1 := lr_mh hG; have hm2 := lr_mw hG; have hm3 := lr_mp hG; have hm4 := lr_mr hG; have hm5 := lr_ma hG; have hm6 := lr_ml hG
  refine pm_bl [(.aload_n 0, 1, 0, 0, 0), (.getfield 41, 3, 9, 6, 0)] (pc1 := 4) (lo1 := [some (.ref 0)]) (st1 := [.int (μ.1 0 6)]) (μ1 := μ) (vc := True) rfl (by decide +kernel) rfl trivial ?_
  refine pm_bl [(.iconst (-1), 1, 0, 0, (-1))] (pc1 := 5) (lo1 := [some (.ref 0)]) (st1 := [.int (-1), .int (μ.1 0 6)]) (μ1 := μ) (vc := True) rfl (by decide +kernel) rfl trivial ?_
  refine pm_icmp_ne (off := 14) 19 (by decide +kernel) (by decide) (fun (h5 : ¬ (μ.1 0 6) = (-1)) => ?_) (fun (h9 : (μ.1 0 6) = (-1)) => absurd h9 hr)
  refine pm_bl [(.aload_n 0, 1, 0, 0, 0), (.getfield 41, 3, 9, 6, 0)] (pc1 := 23) (lo1 := [some (.ref 0)]) (st1 := [.int (μ.1 0 6)]) (μ1 := μ) (vc := True) rfl (by decide +kernel) rfl trivial ?_
  exact pm_iret (ty := .int) rfl rfl (by decide) (by decide) (by decide +kernel) (⟨rfl, rfl⟩)
