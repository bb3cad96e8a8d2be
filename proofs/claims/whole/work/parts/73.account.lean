/-! the class: accounts -/
set_option maxHeartbeats 4000000 in
set_option maxRecDepth 100000 in
theorem c_X9_account_0 {g : Nat → Int32} (μ : pm_Mm) (hR : lr_Rel μ.1 1 g) (hG : lr_G g) : pm_CT mi_X9_account [.ref 0, .int 0] μ (fun v μ2 => v = some (.int (nI (lr_n g 2))) ∧ μ2 = μ) pm_NX := by
  refine pm_CT_of (lo := [some (.ref 0), some (.int 0)]) (by decide +kernel) rfl rfl (by intro v hv; simp at hv; rcases hv with rfl | rfl <;> rfl) (Nat.le_of_ble_eq_true rfl) rfl ?_
  have hm1 := lr_mh hG; have hm2 := lr_mw hG; have hm3 := lr_mp hG; have hm4 := lr_mr hG; have hm5 := lr_ma hG; have hm6 := lr_ml hG
  refine pm_bl [(.iload_n 1, 1, 1, 0, 0)] (pc1 := 1) (lo1 := [some (.ref 0), some (.int 0)]) (st1 := [.int 0]) (μ1 := μ) (vc := True) rfl (by decide +kernel) rfl trivial ?_
  refine pm_tswI (dflt := 181) (a := 0) (b := 10) (offs := #[59, 70, 81, 92, 103, 114, 126, 138, 150, 161, 170]) (len := 59) (off := 59) 60 (by decide +kernel) (by decide) (by decide) (by decide) (by decide) ?_
  refine pm_bl [(.aload_n 0, 1, 0, 0, 0), (.getfield 10, 3, 9, 0, 0), (.getfield 58, 3, 5, 0, 0), (.getfield 70, 3, 3, 0, 0)] (pc1 := 70) (lo1 := [some (.ref 0), some (.int 0)]) (st1 := [.int (μ.1 2 0)]) (μ1 := μ) (vc := True) rfl (by decide +kernel) rfl trivial ?_
  rw [lr_rNh hR, lr_gh hG]
  exact pm_iret (ty := .int) rfl rfl (by decide) (by decide) (by decide +kernel) (⟨rfl, rfl⟩)
set_option maxHeartbeats 4000000 in
set_option maxRecDepth 100000 in
theorem c_X9_account_1 {g : Nat → Int32} (μ : pm_Mm) (hR : lr_Rel μ.1 1 g) (hG : lr_G g) : pm_CT mi_X9_account [.ref 0, .int 1] μ (fun v μ2 => v = some (.int (nI (lr_n g 35))) ∧ μ2 = μ) pm_NX := by
  refine pm_CT_of (lo := [some (.ref 0), some (.int 1)]) (by decide +kernel) rfl rfl (by intro v hv; simp at hv; rcases hv with rfl | rfl <;> rfl) (Nat.le_of_ble_eq_true rfl) rfl ?_
  have hm1 := lr_mh hG; have hm2 := lr_mw hG; have hm3 := lr_mp hG; have hm4 := lr_mr hG; have hm5 := lr_ma hG; have hm6 := lr_ml hG
  refine pm_bl [(.iload_n 1, 1, 1, 0, 0)] (pc1 := 1) (lo1 := [some (.ref 0), some (.int 1)]) (st1 := [.int 1]) (μ1 := μ) (vc := True) rfl (by decide +kernel) rfl trivial ?_
  refine pm_tswI (dflt := 181) (a := 0) (b := 10) (offs := #[59, 70, 81, 92, 103, 114, 126, 138, 150, 161, 170]) (len := 59) (off := 70) 71 (by decide +kernel) (by decide) (by decide) (by decide) (by decide) ?_
  refine pm_bl [(.aload_n 0, 1, 0, 0, 0), (.getfield 10, 3, 9, 0, 0), (.getfield 90, 3, 5, 1, 0), (.getfield 94, 3, 6, 0, 0)] (pc1 := 81) (lo1 := [some (.ref 0), some (.int 1)]) (st1 := [.int (μ.1 5 0)]) (μ1 := μ) (vc := True) rfl (by decide +kernel) rfl trivial ?_
  rw [lr_rNp hR, lr_gp hG]
  exact pm_iret (ty := .int) rfl rfl (by decide) (by decide) (by decide +kernel) (⟨rfl, rfl⟩)
set_option maxHeartbeats 4000000 in
set_option maxRecDepth 100000 in
theorem c_X9_account_2 {g : Nat → Int32} (μ : pm_Mm) (hR : lr_Rel μ.1 1 g) (hG : lr_G g) : pm_CT mi_X9_account [.ref 0, .int 2] μ (fun v μ2 => v = some (.int (nI (lr_n g 116))) ∧ μ2 = μ) pm_NX := by
  refine pm_CT_of (lo := [some (.ref 0), some (.int 2)]) (by decide +kernel) rfl rfl (by intro v hv; simp at hv; rcases hv with rfl | rfl <;> rfl) (Nat.le_of_ble_eq_true rfl) rfl ?_
  have hm1 := lr_mh hG; have hm2 := lr_mw hG; have hm3 := lr_mp hG; have hm4 := lr_mr hG; have hm5 := lr_ma hG; have hm6 := lr_ml hG
  refine pm_bl [(.iload_n 1, 1, 1, 0, 0)] (pc1 := 1) (lo1 := [some (.ref 0), some (.int 2)]) (st1 := [.int 2]) (μ1 := μ) (vc := True) rfl (by decide +kernel) rfl trivial ?_
  refine pm_tswI (dflt := 181) (a := 0) (b := 10) (offs := #[59, 70, 81, 92, 103, 114, 126, 138, 150, 161, 170]) (len := 59) (off := 81) 82 (by decide +kernel) (by decide) (by decide) (by decide) (by decide) ?_
  refine pm_bl [(.aload_n 0, 1, 0, 0, 0), (.getfield 10, 3, 9, 0, 0), (.getfield 112, 3, 5, 2, 0), (.getfield 116, 3, 8, 0, 0)] (pc1 := 92) (lo1 := [some (.ref 0), some (.int 2)]) (st1 := [.int (μ.1 10 0)]) (μ1 := μ) (vc := True) rfl (by decide +kernel) rfl trivial ?_
  rw [lr_rNw hR, lr_gw hG]
  exact pm_iret (ty := .int) rfl rfl (by decide) (by decide) (by decide +kernel) (⟨rfl, rfl⟩)
set_option maxHeartbeats 4000000 in
set_option maxRecDepth 100000 in
theorem c_X9_account_3 {g : Nat → Int32} (μ : pm_Mm) (hR : lr_Rel μ.1 1 g) (hG : lr_G g) : pm_CT mi_X9_account [.ref 0, .int 3] μ (fun v μ2 => v = some (.int (nI (lr_n g 167))) ∧ μ2 = μ) pm_NX := by
  refine pm_CT_of (lo := [some (.ref 0), some (.int 3)]) (by decide +kernel) rfl rfl (by intro v hv; simp at hv; rcases hv with rfl | rfl <;> rfl) (Nat.le_of_ble_eq_true rfl) rfl ?_
  have hm1 := lr_mh hG; have hm2 := lr_mw hG; have hm3 := lr_mp hG; have hm4 := lr_mr hG; have hm5 := lr_ma hG; have hm6 := lr_ml hG
  refine pm_bl [(.iload_n 1, 1, 1, 0, 0)] (pc1 := 1) (lo1 := [some (.ref 0), some (.int 3)]) (st1 := [.int 3]) (μ1 := μ) (vc := True) rfl (by decide +kernel) rfl trivial ?_
  refine pm_tswI (dflt := 181) (a := 0) (b := 10) (offs := #[59, 70, 81, 92, 103, 114, 126, 138, 150, 161, 170]) (len := 59) (off := 92) 93 (by decide +kernel) (by decide) (by decide) (by decide) (by decide) ?_
  refine pm_bl [(.aload_n 0, 1, 0, 0, 0), (.getfield 10, 3, 9, 0, 0), (.getfield 158, 3, 5, 3, 0), (.getfield 162, 3, 7, 0, 0)] (pc1 := 103) (lo1 := [some (.ref 0), some (.int 3)]) (st1 := [.int (μ.1 16 0)]) (μ1 := μ) (vc := True) rfl (by decide +kernel) rfl trivial ?_
  rw [lr_rNr hR, lr_gr hG]
  exact pm_iret (ty := .int) rfl rfl (by decide) (by decide) (by decide +kernel) (⟨rfl, rfl⟩)
set_option maxHeartbeats 4000000 in
set_option maxRecDepth 100000 in
theorem c_X9_account_4 {g : Nat → Int32} (μ : pm_Mm) (hR : lr_Rel μ.1 1 g) (hG : lr_G g) : pm_CT mi_X9_account [.ref 0, .int 4] μ (fun v μ2 => v = some (.int (nI (lr_n g 289))) ∧ μ2 = μ) pm_NX := by
  refine pm_CT_of (lo := [some (.ref 0), some (.int 4)]) (by decide +kernel) rfl rfl (by intro v hv; simp at hv; rcases hv with rfl | rfl <;> rfl) (Nat.le_of_ble_eq_true rfl) rfl ?_
  have hm1 := lr_mh hG; have hm2 := lr_mw hG; have hm3 := lr_mp hG; have hm4 := lr_mr hG; have hm5 := lr_ma hG; have hm6 := lr_ml hG
  refine pm_bl [(.iload_n 1, 1, 1, 0, 0)] (pc1 := 1) (lo1 := [some (.ref 0), some (.int 4)]) (st1 := [.int 4]) (μ1 := μ) (vc := True) rfl (by decide +kernel) rfl trivial ?_
  refine pm_tswI (dflt := 181) (a := 0) (b := 10) (offs := #[59, 70, 81, 92, 103, 114, 126, 138, 150, 161, 170]) (len := 59) (off := 103) 104 (by decide +kernel) (by decide) (by decide) (by decide) (by decide) ?_
  refine pm_bl [(.aload_n 0, 1, 0, 0, 0), (.getfield 10, 3, 9, 0, 0), (.getfield 235, 3, 5, 5, 0), (.getfield 239, 3, 4, 0, 0)] (pc1 := 114) (lo1 := [some (.ref 0), some (.int 4)]) (st1 := [.int (μ.1 26 0)]) (μ1 := μ) (vc := True) rfl (by decide +kernel) rfl trivial ?_
  rw [lr_rNl hR, lr_gl hG]
  exact pm_iret (ty := .int) rfl rfl (by decide) (by decide) (by decide +kernel) (⟨rfl, rfl⟩)
set_option maxHeartbeats 4000000 in
set_option maxRecDepth 100000 in
theorem c_X9_account_5 {g : Nat → Int32} (μ : pm_Mm) (hR : lr_Rel μ.1 1 g) (hG : lr_G g) : pm_CT mi_X9_account [.ref 0, .int 5] μ (fun v μ2 => v = some (.int (lr_cst g 0)) ∧ μ2 = μ) pm_NX := by
  refine pm_CT_of (lo := [some (.ref 0), some (.int 5)]) (by decide +kernel) rfl rfl (by intro v hv; simp at hv; rcases hv with rfl | rfl <;> rfl) (Nat.le_of_ble_eq_true rfl) rfl ?_
  have hm1 := lr_mh hG; have hm2 := lr_mw hG; have hm3 := lr_mp hG; have hm4 := lr_mr hG; have hm5 := lr_ma hG; have hm6 := lr_ml hG
  refine pm_bl [(.iload_n 1, 1, 1, 0, 0)] (pc1 := 1) (lo1 := [some (.ref 0), some (.int 5)]) (st1 := [.int 5]) (μ1 := μ) (vc := True) rfl (by decide +kernel) rfl trivial ?_
  refine pm_tswI (dflt := 181) (a := 0) (b := 10) (offs := #[59, 70, 81, 92, 103, 114, 126, 138, 150, 161, 170]) (len := 59) (off := 114) 115 (by decide +kernel) (by decide) (by decide) (by decide) (by decide) ?_
  refine pm_bl [(.aload_n 0, 1, 0, 0, 0), (.getfield 10, 3, 9, 0, 0), (.getfield 235, 3, 5, 5, 0), (.iconst 0, 1, 0, 0, 0)] (pc1 := 123) (lo1 := [some (.ref 0), some (.int 5)]) (st1 := [.int 0, .ref 26]) (μ1 := μ) (vc := True) rfl (by decide +kernel) rfl trivial ?_
  refine pm_callV2 mi_X4_countInState (ix := 327) (b := 26) (ci := 4) (kc2 := 0) (ks2 := 0) (As := [.int 0]) (rest := []) (c_X4_countInState 0 μ hR hG) cal_X4_countInState lk9_327 (by decide +kernel) rfl (by decide +kernel) rfl rfl rfl rfl (Nat.le_of_ble_eq_true rfl) (by decide) (by decide) (fun _ _ h9 => h9.elim) ?_
  rintro _ _ ⟨rfl, h9⟩; rw [h9]; clear h9
  show pm_V _ _ _ _ 126 _ [.int (lr_cst g 0)] _
  exact pm_iret (ty := .int) rfl rfl (by decide) (by decide) (by decide +kernel) (⟨rfl, rfl⟩)
set_option maxHeartbeats 4000000 in
set_option maxRecDepth 100000 in
theorem c_X9_account_6 {g : Nat → Int32} (μ : pm_Mm) (hR : lr_Rel μ.1 1 g) (hG : lr_G g) : pm_CT mi_X9_account [.ref 0, .int 6] μ (fun v μ2 => v = some (.int (lr_cst g 1)) ∧ μ2 = μ) pm_NX := by
  refine pm_CT_of (lo := [some (.ref 0), some (.int 6)]) (by decide +kernel) rfl rfl (by intro v hv; simp at hv; rcases hv with rfl | rfl <;> rfl) (Nat.le_of_ble_eq_true rfl) rfl ?_
  have hm1 := lr_mh hG; have hm2 := lr_mw hG; have hm3 := lr_mp hG; have hm4 := lr_mr hG; have hm5 := lr_ma hG; have hm6 := lr_ml hG
  refine pm_bl [(.iload_n 1, 1, 1, 0, 0)] (pc1 := 1) (lo1 := [some (.ref 0), some (.int 6)]) (st1 := [.int 6]) (μ1 := μ) (vc := True) rfl (by decide +kernel) rfl trivial ?_
  refine pm_tswI (dflt := 181) (a := 0) (b := 10) (offs := #[59, 70, 81, 92, 103, 114, 126, 138, 150, 161, 170]) (len := 59) (off := 126) 127 (by decide +kernel) (by decide) (by decide) (by decide) (by decide) ?_
  refine pm_bl [(.aload_n 0, 1, 0, 0, 0), (.getfield 10, 3, 9, 0, 0), (.getfield 235, 3, 5, 5, 0), (.iconst 1, 1, 0, 0, 1)] (pc1 := 135) (lo1 := [some (.ref 0), some (.int 6)]) (st1 := [.int 1, .ref 26]) (μ1 := μ) (vc := True) rfl (by decide +kernel) rfl trivial ?_
  refine pm_callV2 mi_X4_countInState (ix := 327) (b := 26) (ci := 4) (kc2 := 0) (ks2 := 0) (As := [.int 1]) (rest := []) (c_X4_countInState 1 μ hR hG) cal_X4_countInState lk9_327 (by decide +kernel) rfl (by decide +kernel) rfl rfl rfl rfl (Nat.le_of_ble_eq_true rfl) (by decide) (by decide) (fun _ _ h9 => h9.elim) ?_
  rintro _ _ ⟨rfl, h9⟩; rw [h9]; clear h9
  show pm_V _ _ _ _ 138 _ [.int (lr_cst g 1)] _
  exact pm_iret (ty := .int) rfl rfl (by decide) (by decide) (by decide +kernel) (⟨rfl, rfl⟩)
set_option maxHeartbeats 4000000 in
set_option maxRecDepth 100000 in
theorem c_X9_account_7 {g : Nat → Int32} (μ : pm_Mm) (hR : lr_Rel μ.1 1 g) (hG : lr_G g) : pm_CT mi_X9_account [.ref 0, .int 7] μ (fun v μ2 => v = some (.int (lr_cst g 2)) ∧ μ2 = μ) pm_NX := by
  refine pm_CT_of (lo := [some (.ref 0), some (.int 7)]) (by decide +kernel) rfl rfl (by intro v hv; simp at hv; rcases hv with rfl | rfl <;> rfl) (Nat.le_of_ble_eq_true rfl) rfl ?_
  have hm1 := lr_mh hG; have hm2 := lr_mw hG; have hm3 := lr_mp hG; have hm4 := lr_mr hG; have hm5 := lr_ma hG; have hm6 := lr_ml hG
  refine pm_bl [(.iload_n 1, 1, 1, 0, 0)] (pc1 := 1) (lo1 := [some (.ref 0), some (.int 7)]) (st1 := [.int 7]) (μ1 := μ) (vc := True) rfl (by decide +kernel) rfl trivial ?_
  refine pm_tswI (dflt := 181) (a := 0) (b := 10) (offs := #[59, 70, 81, 92, 103, 114, 126, 138, 150, 161, 170]) (len := 59) (off := 138) 139 (by decide +kernel) (by decide) (by decide) (by decide) (by decide) ?_
  refine pm_bl [(.aload_n 0, 1, 0, 0, 0), (.getfield 10, 3, 9, 0, 0), (.getfield 235, 3, 5, 5, 0), (.iconst 2, 1, 0, 0, 2)] (pc1 := 147) (lo1 := [some (.ref 0), some (.int 7)]) (st1 := [.int 2, .ref 26]) (μ1 := μ) (vc := True) rfl (by decide +kernel) rfl trivial ?_
  refine pm_callV2 mi_X4_countInState (ix := 327) (b := 26) (ci := 4) (kc2 := 0) (ks2 := 0) (As := [.int 2]) (rest := []) (c_X4_countInState 2 μ hR hG) cal_X4_countInState lk9_327 (by decide +kernel) rfl (by decide +kernel) rfl rfl rfl rfl (Nat.le_of_ble_eq_true rfl) (by decide) (by decide) (fun _ _ h9 => h9.elim) ?_
  rintro _ _ ⟨rfl, h9⟩; rw [h9]; clear h9
  show pm_V _ _ _ _ 150 _ [.int (lr_cst g 2)] _
  exact pm_iret (ty := .int) rfl rfl (by decide) (by decide) (by decide +kernel) (⟨rfl, rfl⟩)
set_option maxHeartbeats 4000000 in
set_option maxRecDepth 100000 in
theorem c_X9_account_8 {g : Nat → Int32} (μ : pm_Mm) (hR : lr_Rel μ.1 1 g) (hG : lr_G g) : pm_CT mi_X9_account [.ref 0, .int 8] μ (fun v μ2 => v = some (.int (lr_wwt g)) ∧ μ2 = μ) pm_NX := by
  refine pm_CT_of (lo := [some (.ref 0), some (.int 8)]) (by decide +kernel) rfl rfl (by intro v hv; simp at hv; rcases hv with rfl | rfl <;> rfl) (Nat.le_of_ble_eq_true rfl) rfl ?_
  have hm1 := lr_mh hG; have hm2 := lr_mw hG; have hm3 := lr_mp hG; have hm4 := lr_mr hG; have hm5 := lr_ma hG; have hm6 := lr_ml hG
  refine pm_bl [(.iload_n 1, 1, 1, 0, 0)] (pc1 := 1) (lo1 := [some (.ref 0), some (.int 8)]) (st1 := [.int 8]) (μ1 := μ) (vc := True) rfl (by decide +kernel) rfl trivial ?_
  refine pm_tswI (dflt := 181) (a := 0) (b := 10) (offs := #[59, 70, 81, 92, 103, 114, 126, 138, 150, 161, 170]) (len := 59) (off := 150) 151 (by decide +kernel) (by decide) (by decide) (by decide) (by decide) ?_
  refine pm_bl [(.aload_n 0, 1, 0, 0, 0), (.getfield 10, 3, 9, 0, 0), (.getfield 235, 3, 5, 5, 0)] (pc1 := 158) (lo1 := [some (.ref 0), some (.int 8)]) (st1 := [.ref 26]) (μ1 := μ) (vc := True) rfl (by decide +kernel) rfl trivial ?_
  refine pm_callV2 mi_X4_waitingWeight (ix := 330) (b := 26) (ci := 4) (kc2 := 0) (ks2 := 0) (As := []) (rest := []) (c_X4_waitingWeight μ hR hG) cal_X4_waitingWeight lk9_330 (by decide +kernel) rfl (by decide +kernel) rfl rfl rfl rfl (Nat.le_of_ble_eq_true rfl) (by decide) (by decide) (fun _ _ h9 => h9.elim) ?_
  rintro _ _ ⟨rfl, h9⟩; rw [h9]; clear h9
  show pm_V _ _ _ _ 161 _ [.int (lr_wwt g)] _
  exact pm_iret (ty := .int) rfl rfl (by decide) (by decide) (by decide +kernel) (⟨rfl, rfl⟩)
set_option maxHeartbeats 4000000 in
set_option maxRecDepth 100000 in
theorem c_X9_account_9 {g : Nat → Int32} (μ : pm_Mm) (hR : lr_Rel μ.1 1 g) (hG : lr_G g) : pm_CT mi_X9_account [.ref 0, .int 9] μ (fun v μ2 => v = some (.int (lr_svd g (-1))) ∧ μ2 = μ) pm_NX := by
  refine pm_CT_of (lo := [some (.ref 0), some (.int 9)]) (by decide +kernel) rfl rfl (by intro v hv; simp at hv; rcases hv with rfl | rfl <;> rfl) (Nat.le_of_ble_eq_true rfl) rfl ?_
  have hm1 := lr_mh hG; have hm2 := lr_mw hG; have hm3 := lr_mp hG; have hm4 := lr_mr hG; have hm5 := lr_ma hG; have hm6 := lr_ml hG
  refine pm_bl [(.iload_n 1, 1, 1, 0, 0)] (pc1 := 1) (lo1 := [some (.ref 0), some (.int 9)]) (st1 := [.int 9]) (μ1 := μ) (vc := True) rfl (by decide +kernel) rfl trivial ?_
  refine pm_tswI (dflt := 181) (a := 0) (b := 10) (offs := #[59, 70, 81, 92, 103, 114, 126, 138, 150, 161, 170]) (len := 59) (off := 161) 162 (by decide +kernel) (by decide) (by decide) (by decide) (by decide) ?_
  refine pm_bl [(.aload_n 0, 1, 0, 0, 0), (.getfield 10, 3, 9, 0, 0), (.iconst (-1), 1, 0, 0, (-1))] (pc1 := 167) (lo1 := [some (.ref 0), some (.int 9)]) (st1 := [.int (-1), .ref 1]) (μ1 := μ) (vc := True) rfl (by decide +kernel) rfl trivial ?_
  refine pm_callV2 mi_X5_countServedBy (ix := 124) (b := 1) (ci := 5) (kc2 := 0) (ks2 := 0) (As := [.int (-1)]) (rest := []) (c_X5_countServedBy (-1) μ hR hG) cal_X5_countServedBy lk9_124 (by decide +kernel) rfl (by decide +kernel) rfl rfl rfl rfl (Nat.le_of_ble_eq_true rfl) (by decide) (by decide) (fun _ _ h9 => h9.elim) ?_
  rintro _ _ ⟨rfl, h9⟩; rw [h9]; clear h9
  show pm_V _ _ _ _ 170 _ [.int (lr_svd g (-1))] _
  exact pm_iret (ty := .int) rfl rfl (by decide) (by decide) (by decide +kernel) (⟨rfl, rfl⟩)
set_option maxHeartbeats 4000000 in
set_option maxRecDepth 100000 in
theorem c_X9_account_10 {g : Nat → Int32} (μ : pm_Mm) (hR : lr_Rel μ.1 1 g) (hG : lr_G g) : pm_CT mi_X9_account [.ref 0, .int 10] μ (fun v μ2 => v = some (.int (lr_atr g)) ∧ μ2 = μ) pm_NX := by
  refine pm_CT_of (lo := [some (.ref 0), some (.int 10)]) (by decide +kernel) rfl rfl (by intro v hv; simp at hv; rcases hv with rfl | rfl <;> rfl) (Nat.le_of_ble_eq_true rfl) rfl ?_
  have hm1 := lr_mh hG; have hm2 := lr_mw hG; have hm3 := lr_mp hG; have hm4 := lr_mr hG; have hm5 := lr_ma hG; have hm6 := lr_ml hG
  refine pm_bl [(.iload_n 1, 1, 1, 0, 0)] (pc1 := 1) (lo1 := [some (.ref 0), some (.int 10)]) (st1 := [.int 10]) (μ1 := μ) (vc := True) rfl (by decide +kernel) rfl trivial ?_
  refine pm_tswI (dflt := 181) (a := 0) (b := 10) (offs := #[59, 70, 81, 92, 103, 114, 126, 138, 150, 161, 170]) (len := 59) (off := 170) 171 (by decide +kernel) (by decide) (by decide) (by decide) (by decide) ?_
  refine pm_bl [(.aload_n 0, 1, 0, 0, 0), (.getfield 10, 3, 9, 0, 0), (.getfield 235, 3, 5, 5, 0)] (pc1 := 178) (lo1 := [some (.ref 0), some (.int 10)]) (st1 := [.ref 26]) (μ1 := μ) (vc := True) rfl (by decide +kernel) rfl trivial ?_
  refine pm_callV2 mi_X4_allTries (ix := 333) (b := 26) (ci := 4) (kc2 := 0) (ks2 := 0) (As := []) (rest := []) (c_X4_allTries μ hR hG) cal_X4_allTries lk9_333 (by decide +kernel) rfl (by decide +kernel) rfl rfl rfl rfl (Nat.le_of_ble_eq_true rfl) (by decide) (by decide) (fun _ _ h9 => h9.elim) ?_
  rintro _ _ ⟨rfl, h9⟩; rw [h9]; clear h9
  show pm_V _ _ _ _ 181 _ [.int (lr_atr g)] _
  exact pm_iret (ty := .int) rfl rfl (by decide) (by decide) (by decide +kernel) (⟨rfl, rfl⟩)
set_option maxHeartbeats 4000000 in
set_option maxRecDepth 100000 in
theorem c_X9_account_no {g : Nat → Int32} {x : Int32} (μ : pm_Mm) (hR : lr_Rel μ.1 1 g) (hG : lr_G g) (ho : x.toInt < 0 ∨ 10 < x.toInt) : pm_CT mi_X9_account [.ref 0, .int x] μ (fun _ _ => False) (fun E μ2 => E = "java/lang/IllegalArgumentException" ∧ μ2 = μ) := by
  refine pm_CT_of (lo := [some (.ref 0), some (.int x)]) (by decide +kernel) rfl rfl (by intro v hv; simp at hv; rcases hv with rfl | rfl <;> rfl) (Nat.le_of_ble_eq_true rfl) rfl ?_
  have hm1 := lr_mh hG; have hm2 := lr_mw hG; have hm3 := lr_mp hG; have hm4 := lr_mr hG; have hm5 := lr_ma hG; have hm6 := lr_ml hG
  refine pm_bl [(.iload_n 1, 1, 1, 0, 0)] (pc1 := 1) (lo1 := [some (.ref 0), some (.int x)]) (st1 := [.int x]) (μ1 := μ) (vc := True) rfl (by decide +kernel) rfl trivial ?_
  refine pm_tswO (dflt := 181) (a := 0) (b := 10) (offs := #[59, 70, 81, 92, 103, 114, 126, 138, 150, 161, 170]) (len := 59) 182 (by decide +kernel) (ho) (by decide) ?_
  exact pm_throwW (is := 336) (tx := "there is no such account") pm_exIA rfl (by decide +kernel) rfl (by decide +kernel) (by decide +kernel) (by decide +kernel) (by decide +kernel) (by decide +kernel) (by decide) (by decide) (⟨rfl, rfl⟩)
set_option maxHeartbeats 4000000 in
set_option maxRecDepth 100000 in
theorem c_X9_returned_no {g : Nat → Int32} {x : Int32} (μ : pm_Mm) (hR : lr_Rel μ.1 1 g) (hG : lr_G g) (hl : lr_in x 1 4 = false) : pm_CT mi_X9_returned [.ref 0, .int x] μ (fun _ _ => False) (fun E μ2 => E = "java/lang/IllegalArgumentException" ∧ μ2 = μ) := by
  refine pm_CT_of (lo := [some (.ref 0), some (.int x)]) (by decide +kernel) rfl rfl (by intro v hv; simp at hv; rcases hv with rfl | rfl <;> rfl) (Nat.le_of_ble_eq_true rfl) rfl ?_
  have hm1 := lr_mh hG; have hm2 := lr_mw hG; have hm3 := lr_mp hG; have hm4 := lr_mr hG; have hm5 := lr_ma hG; have hm6 := lr_ml hG
  refine pm_bl [(.iload_n 1, 1, 1, 0, 0), (.iconst 1, 1, 0, 0, 1), (.iconst 4, 1, 0, 0, 4)] (pc1 := 3) (lo1 := [some (.ref 0), some (.int x)]) (st1 := [.int 4, .int 1, .int x]) (μ1 := μ) (vc := True) rfl (by decide +kernel) rfl trivial ?_
  refine pm_callS2 mi_X9_isBetween (ix := 102) (kc2 := 0) (ks2 := 0) (As := [.int x, .int 1, .int 4]) (rest := []) (c_X9_isBetween x 1 4 μ) cal_X9_isBetween lk9_102 (by decide +kernel) rfl (by decide +kernel) rfl rfl (Nat.le_of_ble_eq_true rfl) (by decide) (by decide) (fun _ _ h9 => h9.elim) ?_
  rintro _ _ ⟨rfl, h9⟩; rw [h9]; clear h9
  show pm_V _ _ _ _ 6 _ [.int (lr_b (lr_in x 1 4))] _
  refine pm_ifb_ne (off := 14) 20 (by decide +kernel) (by decide) (fun (h9 : (lr_in x 1 4) = true) => absurd (hl.symm.trans h9) (by decide)) (fun (h6 : (lr_in x 1 4) = false) => ?_)
  exact pm_throwW (is := 338) (tx := "there is no such reason") pm_exIA rfl (by decide +kernel) rfl (by decide +kernel) (by decide +kernel) (by decide +kernel) (by decide +kernel) (by decide +kernel) (by decide) (by decide) (⟨rfl, rfl⟩)
set_option maxHeartbeats 4000000 in
set_option maxRecDepth 100000 in
theorem c_X9_returned {g : Nat → Int32} {x : Int32} (μ : pm_Mm) (hR : lr_Rel μ.1 1 g) (hG : lr_G g) (hl : lr_in x 1 4 = true) : pm_CT mi_X9_returned [.ref 0, .int x] μ (fun v μ2 => v = some (.int (lr_crs g x)) ∧ μ2 = μ) pm_NX := by
  refine pm_CT_of (lo := [some (.ref 0), some (.int x)]) (by decide +kernel) rfl rfl (by intro v hv; simp at hv; rcases hv with rfl | rfl <;> rfl) (Nat.le_of_ble_eq_true rfl) rfl ?_
  have hm1 := lr_mh hG; have hm2 := lr_mw hG; have hm3 := lr_mp hG; have hm4 := lr_mr hG; have hm5 := lr_ma hG; have hm6 := lr_ml hG
  refine pm_bl [(.iload_n 1, 1, 1, 0, 0), (.iconst 1, 1, 0, 0, 1), (.iconst 4, 1, 0, 0, 4)] (pc1 := 3) (lo1 := [some (.ref 0), some (.int x)]) (st1 := [.int 4, .int 1, .int x]) (μ1 := μ) (vc := True) rfl (by decide +kernel) rfl trivial ?_
  refine pm_callS2 mi_X9_isBetween (ix := 102) (kc2 := 0) (ks2 := 0) (As := [.int x, .int 1, .int 4]) (rest := []) (c_X9_isBetween x 1 4 μ) cal_X9_isBetween lk9_102 (by decide +kernel) rfl (by decide +kernel) rfl rfl (Nat.le_of_ble_eq_true rfl) (by decide) (by decide) (fun _ _ h9 => h9.elim) ?_
  rintro _ _ ⟨rfl, h9⟩; rw [h9]; clear h9
  show pm_V _ _ _ _ 6 _ [.int (lr_b (lr_in x 1 4))] _
  refine pm_ifb_ne (off := 14) 20 (by decide +kernel) (by decide) (fun (h6 : (lr_in x 1 4) = true) => ?_) (fun (h9 : (lr_in x 1 4) = false) => absurd (hl.symm.trans h9) (by decide))
  refine pm_bl [(.aload_n 0, 1, 0, 0, 0), (.getfield 10, 3, 9, 0, 0), (.getfield 235, 3, 5, 5, 0), (.iload_n 1, 1, 1, 0, 0)] (pc1 := 28) (lo1 := [some (.ref 0), some (.int x)]) (st1 := [.int x, .ref 26]) (μ1 := μ) (vc := True) rfl (by decide +kernel) rfl trivial ?_
  refine pm_callV2 mi_X4_countReturnedFor (ix := 340) (b := 26) (ci := 4) (kc2 := 0) (ks2 := 0) (As := [.int x]) (rest := []) (c_X4_countReturnedFor x μ hR hG) cal_X4_countReturnedFor lk9_340 (by decide +kernel) rfl (by decide +kernel) rfl rfl rfl rfl (Nat.le_of_ble_eq_true rfl) (by decide) (by decide) (fun _ _ h9 => h9.elim) ?_
  rintro _ _ ⟨rfl, h9⟩; rw [h9]; clear h9
  show pm_V _ _ _ _ 31 _ [.int (lr_crs g x)] _
  exact pm_iret (ty := .int) rfl rfl (by decide) (by decide) (by decide +kernel) (⟨rfl, rfl⟩)
