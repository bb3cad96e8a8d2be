/-! the class: the mean -/
set_option maxHeartbeats 4000000 in
set_option maxRecDepth 100000 in
theorem c_X9_meanDays_no {g : Nat → Int32} (μ : pm_Mm) (hR : lr_Rel μ.1 1 g) (hG : lr_G g) (hz : lr_n g 1 = 0) : pm_CT mi_X9_meanDays [.ref 0] μ (fun _ _ => False) (fun E μ2 => E = "java/lang/ArithmeticException" ∧ μ2 = μ) := by
  refine pm_CT_of (lo := [some (.ref 0), none]) (by decide +kernel) rfl rfl (by intro v hv; simp at hv; rcases hv with rfl <;> rfl) (Nat.le_of_ble_eq_true rfl) rfl ?_
  have hm1 := lr_mh hG; have hm2 := lr_mw hG; have hm3 := lr_mp hG; have hm4 := lr_mr hG; have hm5 := lr_ma hG; have hm6 := lr_ml hG
  refine pm_bl [(.aload_n 0, 1, 0, 0, 0), (.getfield 10, 3, 9, 0, 0), (.getfield 235, 3, 5, 5, 0), (.getfield 304, 3, 4, 1, 0)] (pc1 := 10) (lo1 := [some (.ref 0), none]) (st1 := [.int (μ.1 26 1)]) (μ1 := μ) (vc := True) rfl (by decide +kernel) rfl trivial ?_
  rw [lr_rD hR, lr_gD hG]
  refine pm_bl [(.istore_n 1, 1, 1, 0, 0), (.iload_n 1, 1, 1, 0, 0)] (pc1 := 12) (lo1 := [some (.ref 0), some (.int (nI (lr_n g 1)))]) (st1 := [.int (nI (lr_n g 1))]) (μ1 := μ) (vc := True) rfl (by decide +kernel) rfl trivial ?_
  refine pm_if_ne (off := 14) 26 (by decide +kernel) (by decide) (fun (h9 : ¬ (nI (lr_n g 1)) = 0) => absurd (by rw [hz]; rfl) h9) (fun (h12 : (nI (lr_n g 1)) = 0) => ?_)
  exact pm_throwW (is := 345) (tx := "no letter was delivered") pm_exAR rfl (by decide +kernel) rfl (by decide +kernel) (by decide +kernel) (by decide +kernel) (by decide +kernel) (by decide +kernel) (by decide) (by decide) (⟨rfl, rfl⟩)
set_option maxHeartbeats 4000000 in
set_option maxRecDepth 100000 in
theorem c_X9_meanDays {g : Nat → Int32} (μ : pm_Mm) (hR : lr_Rel μ.1 1 g) (hG : lr_G g) (hz : 0 < lr_n g 1) : pm_CT mi_X9_meanDays [.ref 0] μ (fun v μ2 => v = some (.double (FP.ddiv (FP.i2d (lr_dtd g)) (FP.i2d (nI (lr_n g 1))))) ∧ μ2 = μ) pm_NX := by
  refine pm_CT_of (lo := [some (.ref 0), none]) (by decide +kernel) rfl rfl (by intro v hv; simp at hv; rcases hv with rfl <;> rfl) (Nat.le_of_ble_eq_true rfl) rfl ?_
  have hm1 := lr_mh hG; have hm2 := lr_mw hG; have hm3 := lr_mp hG; have hm4 := lr_mr hG; have hm5 := lr_ma hG; have hm6 := lr_ml hG
  have mD := lr_mD hG
  refine pm_bl [(.aload_n 0, 1, 0, 0, 0), (.getfield 10, 3, 9, 0, 0), (.getfield 235, 3, 5, 5, 0), (.getfield 304, 3, 4, 1, 0)] (pc1 := 10) (lo1 := [some (.ref 0), none]) (st1 := [.int (μ.1 26 1)]) (μ1 := μ) (vc := True) rfl (by decide +kernel) rfl trivial ?_
  rw [lr_rD hR, lr_gD hG]
  refine pm_bl [(.istore_n 1, 1, 1, 0, 0), (.iload_n 1, 1, 1, 0, 0)] (pc1 := 12) (lo1 := [some (.ref 0), some (.int (nI (lr_n g 1)))]) (st1 := [.int (nI (lr_n g 1))]) (μ1 := μ) (vc := True) rfl (by decide +kernel) rfl trivial ?_
  refine pm_if_ne (off := 14) 26 (by decide +kernel) (by decide) (fun (h12 : ¬ (nI (lr_n g 1)) = 0) => ?_) (fun (h9 : (nI (lr_n g 1)) = 0) => absurd h9 (nI_ne0 hz (by omega)))
  refine pm_bl [(.aload_n 0, 1, 0, 0, 0), (.getfield 10, 3, 9, 0, 0), (.getfield 235, 3, 5, 5, 0)] (pc1 := 33) (lo1 := [some (.ref 0), some (.int (nI (lr_n g 1)))]) (st1 := [.ref 26]) (μ1 := μ) (vc := True) rfl (by decide +kernel) rfl trivial ?_
  refine pm_callV2 mi_X4_daysToDeliveries (ix := 348) (b := 26) (ci := 4) (kc2 := 0) (ks2 := 0) (As := []) (rest := []) (c_X4_daysToDeliveries μ hR hG) cal_X4_daysToDeliveries lk9_348 (by decide +kernel) rfl (by decide +kernel) rfl rfl rfl rfl (Nat.le_of_ble_eq_true rfl) (by decide) (by decide) (fun _ _ h9 => h9.elim) ?_
  rintro _ _ ⟨rfl, h9⟩; rw [h9]; clear h9
  show pm_V _ _ _ _ 36 _ [.int (lr_dtd g)] _
  refine pm_s_i2d (by decide +kernel) ?_
  refine pm_bl [(.iload_n 1, 1, 1, 0, 0)] (pc1 := 38) (lo1 := [some (.ref 0), some (.int (nI (lr_n g 1)))]) (st1 := [.int (nI (lr_n g 1)), .double (FP.i2d (lr_dtd g))]) (μ1 := μ) (vc := True) rfl (by decide +kernel) rfl trivial ?_
  refine pm_s_i2d (by decide +kernel) ?_
  refine pm_s_ddiv (by decide +kernel) (lr_dnan (nI_ne0 hz (by omega))) ?_
  exact pm_dret rfl (by decide) (by decide) (by decide +kernel) (⟨rfl, rfl⟩)
