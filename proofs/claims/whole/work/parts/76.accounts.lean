/-! the model: accounts, the mean -/
set_option maxHeartbeats 4000000 in
set_option maxRecDepth 100000 in
theorem c_X10_account_0 {g : Nat → Int32} (μ : pm_Mm) (hM : μ.1 48 = g) (hG : lr_G g) : pm_CT mi_X10_account [.ref 47, .int 0] μ (fun v μ2 => v = some (.int (nI (lr_n g 2))) ∧ μ2 = pm_set μ 47 7 0) pm_NX := by
  refine pm_CT_of (lo := [some (.ref 47), some (.int 0)]) (by decide +kernel) rfl rfl (by intro v hv; simp at hv; rcases hv with rfl | rfl <;> rfl) (Nat.le_of_ble_eq_true rfl) rfl ?_
  have hm1 := lr_mh hG; have hm2 := lr_mw hG; have hm3 := lr_mp hG; have hm4 := lr_mr hG; have hm5 := lr_ma hG; have hm6 := lr_ml hG
  refine pm_bl [(.aload_n 0, 1, 0, 0, 0), (.iload_n 1, 1, 1, 0, 0), (.iconst 0, 1, 0, 0, 0), (.bipush 10, 2, 0, 0, 10)] (pc1 := 5) (lo1 := [some (.ref 47), some (.int 0)]) (st1 := [.int 10, .int 0, .int 0, .ref 47]) (μ1 := μ) (vc := True) rfl (by decide +kernel) rfl trivial ?_
  refine pm_callS2 mi_X10_in (ix := 45) (kc2 := 0) (ks2 := 0) (As := [.int 0, .int 0, .int 10]) (rest := [.ref 47]) (c_X10_in 0 0 10 μ) cal_X10_in lk10_45 (by decide +kernel) rfl (by decide +kernel) rfl rfl (Nat.le_of_ble_eq_true rfl) (by decide) (by decide) (fun _ _ h9 => h9.elim) ?_
  rintro _ _ ⟨rfl, h9⟩; rw [h9]; clear h9
  show pm_V _ _ _ _ 8 _ [.int (lr_b (lr_in 0 0 10)), .ref 47] _
  refine pm_ifb_eq (off := 7) 15 (by decide +kernel) (by decide) (fun (h9 : (lr_in 0 0 10) = false) => absurd (h9.symm.trans (show lr_in 0 0 10 = true by decide)) (by decide)) (fun (h8 : (lr_in 0 0 10) = true) => ?_)
  refine pm_bl [(.iconst 0, 1, 0, 0, 0), (.goto 4, 3, 16, 0, 0), (.putfield 35, 3, 10, 7, 0), (.aload_n 0, 1, 0, 0, 0), (.getfield 35, 3, 10, 7, 0)] (pc1 := 23) (lo1 := [some (.ref 47), some (.int 0)]) (st1 := [.int ((pm_set μ 47 7 0).1 47 7)]) (μ1 := pm_set μ 47 7 0) (vc := True) rfl (by decide +kernel) rfl trivial ?_
  rw [show (pm_set μ 47 7 0).1 47 7 = 0 from by rw [pm_set_hit] <;> omega]
  refine pm_if_le (off := 5) 28 (by decide +kernel) (by decide) (fun _ => ?_) (fun h9 => absurd h9 (by decide))
  refine pm_bl [(.iload_n 1, 1, 1, 0, 0)] (pc1 := 29) (lo1 := [some (.ref 47), some (.int 0)]) (st1 := [.int 0]) (μ1 := pm_set μ 47 7 0) (vc := True) rfl (by decide +kernel) rfl trivial ?_
  refine pm_tswI (dflt := 117) (a := 0) (b := 9) (offs := #[55, 62, 70, 78, 87, 96, 96, 96, 105, 112]) (len := 55) (off := 55) 84 (by decide +kernel) (by decide) (by decide) (by decide) (by decide) ?_
  refine pm_bl [(.aload_n 0, 1, 0, 0, 0), (.getfield 7, 3, 10, 0, 0), (.iconst 2, 1, 0, 0, 2), (.iaload, 1, 0, 0, 0)] (pc1 := 90) (lo1 := [some (.ref 47), some (.int 0)]) (st1 := [.int ((pm_set μ 47 7 0).1 48 (2 : Int32).toNatClampNeg)]) (μ1 := pm_set μ 47 7 0) (vc := vp_in 2 620 ∧ True) rfl (by decide +kernel) rfl ⟨(by unfold vp_in; decide), trivial⟩ ?_
  try rw [show (2 : Int32).toNatClampNeg = 2 from by decide]
  rw [show (pm_set μ 47 7 0).1 48 2 = μ.1 48 2 from by rw [pm_set_miss] <;> omega]
  rw [hM, lr_gh hG]
  exact pm_iret (ty := .int) rfl rfl (by decide) (by decide) (by decide +kernel) (⟨rfl, rfl⟩)
set_option maxHeartbeats 4000000 in
set_option maxRecDepth 100000 in
theorem c_X10_account_1 {g : Nat → Int32} (μ : pm_Mm) (hM : μ.1 48 = g) (hG : lr_G g) : pm_CT mi_X10_account [.ref 47, .int 1] μ (fun v μ2 => v = some (.int (nI (lr_n g 35))) ∧ μ2 = pm_set μ 47 7 0) pm_NX := by
  refine pm_CT_of (lo := [some (.ref 47), some (.int 1)]) (by decide +kernel) rfl rfl (by intro v hv; simp at hv; rcases hv with rfl | rfl <;> rfl) (Nat.le_of_ble_eq_true rfl) rfl ?_
  have hm1 := lr_mh hG; have hm2 := lr_mw hG; have hm3 := lr_mp hG; have hm4 := lr_mr hG; have hm5 := lr_ma hG; have hm6 := lr_ml hG
  refine pm_bl [(.aload_n 0, 1, 0, 0, 0), (.iload_n 1, 1, 1, 0, 0), (.iconst 0, 1, 0, 0, 0), (.bipush 10, 2, 0, 0, 10)] (pc1 := 5) (lo1 := [some (.ref 47), some (.int 1)]) (st1 := [.int 10, .int 0, .int 1, .ref 47]) (μ1 := μ) (vc := True) rfl (by decide +kernel) rfl trivial ?_
  refine pm_callS2 mi_X10_in (ix := 45) (kc2 := 0) (ks2 := 0) (As := [.int 1, .int 0, .int 10]) (rest := [.ref 47]) (c_X10_in 1 0 10 μ) cal_X10_in lk10_45 (by decide +kernel) rfl (by decide +kernel) rfl rfl (Nat.le_of_ble_eq_true rfl) (by decide) (by decide) (fun _ _ h9 => h9.elim) ?_
  rintro _ _ ⟨rfl, h9⟩; rw [h9]; clear h9
  show pm_V _ _ _ _ 8 _ [.int (lr_b (lr_in 1 0 10)), .ref 47] _
  refine pm_ifb_eq (off := 7) 15 (by decide +kernel) (by decide) (fun (h9 : (lr_in 1 0 10) = false) => absurd (h9.symm.trans (show lr_in 1 0 10 = true by decide)) (by decide)) (fun (h8 : (lr_in 1 0 10) = true) => ?_)
  refine pm_bl [(.iconst 0, 1, 0, 0, 0), (.goto 4, 3, 16, 0, 0), (.putfield 35, 3, 10, 7, 0), (.aload_n 0, 1, 0, 0, 0), (.getfield 35, 3, 10, 7, 0)] (pc1 := 23) (lo1 := [some (.ref 47), some (.int 1)]) (st1 := [.int ((pm_set μ 47 7 0).1 47 7)]) (μ1 := pm_set μ 47 7 0) (vc := True) rfl (by decide +kernel) rfl trivial ?_
  rw [show (pm_set μ 47 7 0).1 47 7 = 0 from by rw [pm_set_hit] <;> omega]
  refine pm_if_le (off := 5) 28 (by decide +kernel) (by decide) (fun _ => ?_) (fun h9 => absurd h9 (by decide))
  refine pm_bl [(.iload_n 1, 1, 1, 0, 0)] (pc1 := 29) (lo1 := [some (.ref 47), some (.int 1)]) (st1 := [.int 1]) (μ1 := pm_set μ 47 7 0) (vc := True) rfl (by decide +kernel) rfl trivial ?_
  refine pm_tswI (dflt := 117) (a := 0) (b := 9) (offs := #[55, 62, 70, 78, 87, 96, 96, 96, 105, 112]) (len := 55) (off := 62) 91 (by decide +kernel) (by decide) (by decide) (by decide) (by decide) ?_
  refine pm_bl [(.aload_n 0, 1, 0, 0, 0), (.getfield 7, 3, 10, 0, 0), (.bipush 35, 2, 0, 0, 35), (.iaload, 1, 0, 0, 0)] (pc1 := 98) (lo1 := [some (.ref 47), some (.int 1)]) (st1 := [.int ((pm_set μ 47 7 0).1 48 (35 : Int32).toNatClampNeg)]) (μ1 := pm_set μ 47 7 0) (vc := vp_in 35 620 ∧ True) rfl (by decide +kernel) rfl ⟨(by unfold vp_in; decide), trivial⟩ ?_
  try rw [show (35 : Int32).toNatClampNeg = 35 from by decide]
  rw [show (pm_set μ 47 7 0).1 48 35 = μ.1 48 35 from by rw [pm_set_miss] <;> omega]
  rw [hM, lr_gp hG]
  exact pm_iret (ty := .int) rfl rfl (by decide) (by decide) (by decide +kernel) (⟨rfl, rfl⟩)
set_option maxHeartbeats 4000000 in
set_option maxRecDepth 100000 in
theorem c_X10_account_2 {g : Nat → Int32} (μ : pm_Mm) (hM : μ.1 48 = g) (hG : lr_G g) : pm_CT mi_X10_account [.ref 47, .int 2] μ (fun v μ2 => v = some (.int (nI (lr_n g 116))) ∧ μ2 = pm_set μ 47 7 0) pm_NX := by
  refine pm_CT_of (lo := [some (.ref 47), some (.int 2)]) (by decide +kernel) rfl rfl (by intro v hv; simp at hv; rcases hv with rfl | rfl <;> rfl) (Nat.le_of_ble_eq_true rfl) rfl ?_
  have hm1 := lr_mh hG; have hm2 := lr_mw hG; have hm3 := lr_mp hG; have hm4 := lr_mr hG; have hm5 := lr_ma hG; have hm6 := lr_ml hG
  refine pm_bl [(.aload_n 0, 1, 0, 0, 0), (.iload_n 1, 1, 1, 0, 0), (.iconst 0, 1, 0, 0, 0), (.bipush 10, 2, 0, 0, 10)] (pc1 := 5) (lo1 := [some (.ref 47), some (.int 2)]) (st1 := [.int 10, .int 0, .int 2, .ref 47]) (μ1 := μ) (vc := True) rfl (by decide +kernel) rfl trivial ?_
  refine pm_callS2 mi_X10_in (ix := 45) (kc2 := 0) (ks2 := 0) (As := [.int 2, .int 0, .int 10]) (rest := [.ref 47]) (c_X10_in 2 0 10 μ) cal_X10_in lk10_45 (by decide +kernel) rfl (by decide +kernel) rfl rfl (Nat.le_of_ble_eq_true rfl) (by decide) (by decide) (fun _ _ h9 => h9.elim) ?_
  rintro _ _ ⟨rfl, h9⟩; rw [h9]; clear h9
  show pm_V _ _ _ _ 8 _ [.int (lr_b (lr_in 2 0 10)), .ref 47] _
  refine pm_ifb_eq (off := 7) 15 (by decide +kernel) (by decide) (fun (h9 : (lr_in 2 0 10) = false) => absurd (h9.symm.trans (show lr_in 2 0 10 = true by decide)) (by decide)) (fun (h8 : (lr_in 2 0 10) = true) => ?_)
  refine pm_bl [(.iconst 0, 1, 0, 0, 0), (.goto 4, 3, 16, 0, 0), (.putfield 35, 3, 10, 7, 0), (.aload_n 0, 1, 0, 0, 0), (.getfield 35, 3, 10, 7, 0)] (pc1 := 23) (lo1 := [some (.ref 47), some (.int 2)]) (st1 := [.int ((pm_set μ 47 7 0).1 47 7)]) (μ1 := pm_set μ 47 7 0) (vc := True) rfl (by decide +kernel) rfl trivial ?_
  rw [show (pm_set μ 47 7 0).1 47 7 = 0 from by rw [pm_set_hit] <;> omega]
  refine pm_if_le (off := 5) 28 (by decide +kernel) (by decide) (fun _ => ?_) (fun h9 => absurd h9 (by decide))
  refine pm_bl [(.iload_n 1, 1, 1, 0, 0)] (pc1 := 29) (lo1 := [some (.ref 47), some (.int 2)]) (st1 := [.int 2]) (μ1 := pm_set μ 47 7 0) (vc := True) rfl (by decide +kernel) rfl trivial ?_
  refine pm_tswI (dflt := 117) (a := 0) (b := 9) (offs := #[55, 62, 70, 78, 87, 96, 96, 96, 105, 112]) (len := 55) (off := 70) 99 (by decide +kernel) (by decide) (by decide) (by decide) (by decide) ?_
  refine pm_bl [(.aload_n 0, 1, 0, 0, 0), (.getfield 7, 3, 10, 0, 0), (.bipush 116, 2, 0, 0, 116), (.iaload, 1, 0, 0, 0)] (pc1 := 106) (lo1 := [some (.ref 47), some (.int 2)]) (st1 := [.int ((pm_set μ 47 7 0).1 48 (116 : Int32).toNatClampNeg)]) (μ1 := pm_set μ 47 7 0) (vc := vp_in 116 620 ∧ True) rfl (by decide +kernel) rfl ⟨(by unfold vp_in; decide), trivial⟩ ?_
  try rw [show (116 : Int32).toNatClampNeg = 116 from by decide]
  rw [show (pm_set μ 47 7 0).1 48 116 = μ.1 48 116 from by rw [pm_set_miss] <;> omega]
  rw [hM, lr_gw hG]
  exact pm_iret (ty := .int) rfl rfl (by decide) (by decide) (by decide +kernel) (⟨rfl, rfl⟩)
set_option maxHeartbeats 4000000 in
set_option maxRecDepth 100000 in
theorem c_X10_account_3 {g : Nat → Int32} (μ : pm_Mm) (hM : μ.1 48 = g) (hG : lr_G g) : pm_CT mi_X10_account [.ref 47, .int 3] μ (fun v μ2 => v = some (.int (nI (lr_n g 167))) ∧ μ2 = pm_set μ 47 7 0) pm_NX := by
  refine pm_CT_of (lo := [some (.ref 47), some (.int 3)]) (by decide +kernel) rfl rfl (by intro v hv; simp at hv; rcases hv with rfl | rfl <;> rfl) (Nat.le_of_ble_eq_true rfl) rfl ?_
  have hm1 := lr_mh hG; have hm2 := lr_mw hG; have hm3 := lr_mp hG; have hm4 := lr_mr hG; have hm5 := lr_ma hG; have hm6 := lr_ml hG
  refine pm_bl [(.aload_n 0, 1, 0, 0, 0), (.iload_n 1, 1, 1, 0, 0), (.iconst 0, 1, 0, 0, 0), (.bipush 10, 2, 0, 0, 10)] (pc1 := 5) (lo1 := [some (.ref 47), some (.int 3)]) (st1 := [.int 10, .int 0, .int 3, .ref 47]) (μ1 := μ) (vc := True) rfl (by decide +kernel) rfl trivial ?_
  refine pm_callS2 mi_X10_in (ix := 45) (kc2 := 0) (ks2 := 0) (As := [.int 3, .int 0, .int 10]) (rest := [.ref 47]) (c_X10_in 3 0 10 μ) cal_X10_in lk10_45 (by decide +kernel) rfl (by decide +kernel) rfl rfl (Nat.le_of_ble_eq_true rfl) (by decide) (by decide) (fun _ _ h9 => h9.elim) ?_
  rintro _ _ ⟨rfl, h9⟩; rw [h9]; clear h9
  show pm_V _ _ _ _ 8 _ [.int (lr_b (lr_in 3 0 10)), .ref 47] _
  refine pm_ifb_eq (off := 7) 15 (by decide +kernel) (by decide) (fun (h9 : (lr_in 3 0 10) = false) => absurd (h9.symm.trans (show lr_in 3 0 10 = true by decide)) (by decide)) (fun (h8 : (lr_in 3 0 10) = true) => ?_)
  refine pm_bl [(.iconst 0, 1, 0, 0, 0), (.goto 4, 3, 16, 0, 0), (.putfield 35, 3, 10, 7, 0), (.aload_n 0, 1, 0, 0, 0), (.getfield 35, 3, 10, 7, 0)] (pc1 := 23) (lo1 := [some (.ref 47), some (.int 3)]) (st1 := [.int ((pm_set μ 47 7 0).1 47 7)]) (μ1 := pm_set μ 47 7 0) (vc := True) rfl (by decide +kernel) rfl trivial ?_
  rw [show (pm_set μ 47 7 0).1 47 7 = 0 from by rw [pm_set_hit] <;> omega]
  refine pm_if_le (off := 5) 28 (by decide +kernel) (by decide) (fun _ => ?_) (fun h9 => absurd h9 (by decide))
  refine pm_bl [(.iload_n 1, 1, 1, 0, 0)] (pc1 := 29) (lo1 := [some (.ref 47), some (.int 3)]) (st1 := [.int 3]) (μ1 := pm_set μ 47 7 0) (vc := True) rfl (by decide +kernel) rfl trivial ?_
  refine pm_tswI (dflt := 117) (a := 0) (b := 9) (offs := #[55, 62, 70, 78, 87, 96, 96, 96, 105, 112]) (len := 55) (off := 78) 107 (by decide +kernel) (by decide) (by decide) (by decide) (by decide) ?_
  refine pm_bl [(.aload_n 0, 1, 0, 0, 0), (.getfield 7, 3, 10, 0, 0), (.sipush 167, 3, 0, 0, 167), (.iaload, 1, 0, 0, 0)] (pc1 := 115) (lo1 := [some (.ref 47), some (.int 3)]) (st1 := [.int ((pm_set μ 47 7 0).1 48 (167 : Int32).toNatClampNeg)]) (μ1 := pm_set μ 47 7 0) (vc := vp_in 167 620 ∧ True) rfl (by decide +kernel) rfl ⟨(by unfold vp_in; decide), trivial⟩ ?_
  try rw [show (167 : Int32).toNatClampNeg = 167 from by decide]
  rw [show (pm_set μ 47 7 0).1 48 167 = μ.1 48 167 from by rw [pm_set_miss] <;> omega]
  rw [hM, lr_gr hG]
  exact pm_iret (ty := .int) rfl rfl (by decide) (by decide) (by decide +kernel) (⟨rfl, rfl⟩)
set_option maxHeartbeats 4000000 in
set_option maxRecDepth 100000 in
theorem c_X10_account_4 {g : Nat → Int32} (μ : pm_Mm) (hM : μ.1 48 = g) (hG : lr_G g) : pm_CT mi_X10_account [.ref 47, .int 4] μ (fun v μ2 => v = some (.int (nI (lr_n g 289))) ∧ μ2 = pm_set μ 47 7 0) pm_NX := by
  refine pm_CT_of (lo := [some (.ref 47), some (.int 4)]) (by decide +kernel) rfl rfl (by intro v hv; simp at hv; rcases hv with rfl | rfl <;> rfl) (Nat.le_of_ble_eq_true rfl) rfl ?_
  have hm1 := lr_mh hG; have hm2 := lr_mw hG; have hm3 := lr_mp hG; have hm4 := lr_mr hG; have hm5 := lr_ma hG; have hm6 := lr_ml hG
  refine pm_bl [(.aload_n 0, 1, 0, 0, 0), (.iload_n 1, 1, 1, 0, 0), (.iconst 0, 1, 0, 0, 0), (.bipush 10, 2, 0, 0, 10)] (pc1 := 5) (lo1 := [some (.ref 47), some (.int 4)]) (st1 := [.int 10, .int 0, .int 4, .ref 47]) (μ1 := μ) (vc := True) rfl (by decide +kernel) rfl trivial ?_
  refine pm_callS2 mi_X10_in (ix := 45) (kc2 := 0) (ks2 := 0) (As := [.int 4, .int 0, .int 10]) (rest := [.ref 47]) (c_X10_in 4 0 10 μ) cal_X10_in lk10_45 (by decide +kernel) rfl (by decide +kernel) rfl rfl (Nat.le_of_ble_eq_true rfl) (by decide) (by decide) (fun _ _ h9 => h9.elim) ?_
  rintro _ _ ⟨rfl, h9⟩; rw [h9]; clear h9
  show pm_V _ _ _ _ 8 _ [.int (lr_b (lr_in 4 0 10)), .ref 47] _
  refine pm_ifb_eq (off := 7) 15 (by decide +kernel) (by decide) (fun (h9 : (lr_in 4 0 10) = false) => absurd (h9.symm.trans (show lr_in 4 0 10 = true by decide)) (by decide)) (fun (h8 : (lr_in 4 0 10) = true) => ?_)
  refine pm_bl [(.iconst 0, 1, 0, 0, 0), (.goto 4, 3, 16, 0, 0), (.putfield 35, 3, 10, 7, 0), (.aload_n 0, 1, 0, 0, 0), (.getfield 35, 3, 10, 7, 0)] (pc1 := 23) (lo1 := [some (.ref 47), some (.int 4)]) (st1 := [.int ((pm_set μ 47 7 0).1 47 7)]) (μ1 := pm_set μ 47 7 0) (vc := True) rfl (by decide +kernel) rfl trivial ?_
  rw [show (pm_set μ 47 7 0).1 47 7 = 0 from by rw [pm_set_hit] <;> omega]
  refine pm_if_le (off := 5) 28 (by decide +kernel) (by decide) (fun _ => ?_) (fun h9 => absurd h9 (by decide))
  refine pm_bl [(.iload_n 1, 1, 1, 0, 0)] (pc1 := 29) (lo1 := [some (.ref 47), some (.int 4)]) (st1 := [.int 4]) (μ1 := pm_set μ 47 7 0) (vc := True) rfl (by decide +kernel) rfl trivial ?_
  refine pm_tswI (dflt := 117) (a := 0) (b := 9) (offs := #[55, 62, 70, 78, 87, 96, 96, 96, 105, 112]) (len := 55) (off := 87) 116 (by decide +kernel) (by decide) (by decide) (by decide) (by decide) ?_
  refine pm_bl [(.aload_n 0, 1, 0, 0, 0), (.getfield 7, 3, 10, 0, 0), (.sipush 289, 3, 0, 0, 289), (.iaload, 1, 0, 0, 0)] (pc1 := 124) (lo1 := [some (.ref 47), some (.int 4)]) (st1 := [.int ((pm_set μ 47 7 0).1 48 (289 : Int32).toNatClampNeg)]) (μ1 := pm_set μ 47 7 0) (vc := vp_in 289 620 ∧ True) rfl (by decide +kernel) rfl ⟨(by unfold vp_in; decide), trivial⟩ ?_
  try rw [show (289 : Int32).toNatClampNeg = 289 from by decide]
  rw [show (pm_set μ 47 7 0).1 48 289 = μ.1 48 289 from by rw [pm_set_miss] <;> omega]
  rw [hM, lr_gl hG]
  exact pm_iret (ty := .int) rfl rfl (by decide) (by decide) (by decide +kernel) (⟨rfl, rfl⟩)
set_option maxHeartbeats 4000000 in
set_option maxRecDepth 100000 in
theorem c_X10_account_5 {g : Nat → Int32} (μ : pm_Mm) (hM : μ.1 48 = g) (hG : lr_G g) : pm_CT mi_X10_account [.ref 47, .int 5] μ (fun v μ2 => v = some (.int (lr_sum (lr_smn g (5 - 5)) (lr_n g 289))) ∧ μ2 = pm_set μ 47 7 0) pm_NX := by
  refine pm_CT_of (lo := [some (.ref 47), some (.int 5)]) (by decide +kernel) rfl rfl (by intro v hv; simp at hv; rcases hv with rfl | rfl <;> rfl) (Nat.le_of_ble_eq_true rfl) rfl ?_
  have hm1 := lr_mh hG; have hm2 := lr_mw hG; have hm3 := lr_mp hG; have hm4 := lr_mr hG; have hm5 := lr_ma hG; have hm6 := lr_ml hG
  refine pm_bl [(.aload_n 0, 1, 0, 0, 0), (.iload_n 1, 1, 1, 0, 0), (.iconst 0, 1, 0, 0, 0), (.bipush 10, 2, 0, 0, 10)] (pc1 := 5) (lo1 := [some (.ref 47), some (.int 5)]) (st1 := [.int 10, .int 0, .int 5, .ref 47]) (μ1 := μ) (vc := True) rfl (by decide +kernel) rfl trivial ?_
  refine pm_callS2 mi_X10_in (ix := 45) (kc2 := 0) (ks2 := 0) (As := [.int 5, .int 0, .int 10]) (rest := [.ref 47]) (c_X10_in 5 0 10 μ) cal_X10_in lk10_45 (by decide +kernel) rfl (by decide +kernel) rfl rfl (Nat.le_of_ble_eq_true rfl) (by decide) (by decide) (fun _ _ h9 => h9.elim) ?_
  rintro _ _ ⟨rfl, h9⟩; rw [h9]; clear h9
  show pm_V _ _ _ _ 8 _ [.int (lr_b (lr_in 5 0 10)), .ref 47] _
  refine pm_ifb_eq (off := 7) 15 (by decide +kernel) (by decide) (fun (h9 : (lr_in 5 0 10) = false) => absurd (h9.symm.trans (show lr_in 5 0 10 = true by decide)) (by decide)) (fun (h8 : (lr_in 5 0 10) = true) => ?_)
  refine pm_bl [(.iconst 0, 1, 0, 0, 0), (.goto 4, 3, 16, 0, 0), (.putfield 35, 3, 10, 7, 0), (.aload_n 0, 1, 0, 0, 0), (.getfield 35, 3, 10, 7, 0)] (pc1 := 23) (lo1 := [some (.ref 47), some (.int 5)]) (st1 := [.int ((pm_set μ 47 7 0).1 47 7)]) (μ1 := pm_set μ 47 7 0) (vc := True) rfl (by decide +kernel) rfl trivial ?_
  rw [show (pm_set μ 47 7 0).1 47 7 = 0 from by rw [pm_set_hit] <;> omega]
  refine pm_if_le (off := 5) 28 (by decide +kernel) (by decide) (fun _ => ?_) (fun h9 => absurd h9 (by decide))
  refine pm_bl [(.iload_n 1, 1, 1, 0, 0)] (pc1 := 29) (lo1 := [some (.ref 47), some (.int 5)]) (st1 := [.int 5]) (μ1 := pm_set μ 47 7 0) (vc := True) rfl (by decide +kernel) rfl trivial ?_
  refine pm_tswI (dflt := 117) (a := 0) (b := 9) (offs := #[55, 62, 70, 78, 87, 96, 96, 96, 105, 112]) (len := 55) (off := 96) 125 (by decide +kernel) (by decide) (by decide) (by decide) (by decide) ?_
  refine pm_bl [(.aload_n 0, 1, 0, 0, 0), (.iconst (-1), 1, 0, 0, (-1)), (.iload_n 1, 1, 1, 0, 0), (.iconst 5, 1, 0, 0, 5), (.isub, 1, 0, 0, 0)] (pc1 := 130) (lo1 := [some (.ref 47), some (.int 5)]) (st1 := [.int (5 - 5), .int (-1), .ref 47]) (μ1 := pm_set μ 47 7 0) (vc := True) rfl (by decide +kernel) rfl trivial ?_
  refine pm_callV2 mi_X10_sumOf (ix := 161) (b := 47) (ci := 10) (kc2 := 0) (ks2 := 0) (As := [.int (-1), .int (5 - 5)]) (rest := []) (c_X10_sumOf_n (5 - 5) (pm_set μ 47 7 0) (by first | exact hM | (rw [pm_set_off (by decide)]; exact hM)) hG) cal_X10_sumOf lk10_161 (by decide +kernel) rfl (by decide +kernel) rfl rfl rfl rfl (Nat.le_of_ble_eq_true rfl) (by decide) (by decide) (fun _ _ h9 => h9.elim) ?_
  rintro _ _ ⟨rfl, h9⟩; rw [h9]; clear h9
  show pm_V _ _ _ _ 133 _ [.int (lr_sum (lr_smn g (5 - 5)) (lr_n g 289))] _
  exact pm_iret (ty := .int) rfl rfl (by decide) (by decide) (by decide +kernel) (⟨rfl, rfl⟩)
set_option maxHeartbeats 4000000 in
set_option maxRecDepth 100000 in
theorem c_X10_account_6 {g : Nat → Int32} (μ : pm_Mm) (hM : μ.1 48 = g) (hG : lr_G g) : pm_CT mi_X10_account [.ref 47, .int 6] μ (fun v μ2 => v = some (.int (lr_sum (lr_smn g (6 - 5)) (lr_n g 289))) ∧ μ2 = pm_set μ 47 7 0) pm_NX := by
  refine pm_CT_of (lo := [some (.ref 47), some (.int 6)]) (by decide +kernel) rfl rfl (by intro v hv; simp at hv; rcases hv with rfl | rfl <;> rfl) (Nat.le_of_ble_eq_true rfl) rfl ?_
  have hm1 := lr_mh hG; have hm2 := lr_mw hG; have hm3 := lr_mp hG; have hm4 := lr_mr hG; have hm5 := lr_ma hG; have hm6 := lr_ml hG
  refine pm_bl [(.aload_n 0, 1, 0, 0, 0), (.iload_n 1, 1, 1, 0, 0), (.iconst 0, 1, 0, 0, 0), (.bipush 10, 2, 0, 0, 10)] (pc1 := 5) (lo1 := [some (.ref 47), some (.int 6)]) (st1 := [.int 10, .int 0, .int 6, .ref 47]) (μ1 := μ) (vc := True) rfl (by decide +kernel) rfl trivial ?_
  refine pm_callS2 mi_X10_in (ix := 45) (kc2 := 0) (ks2 := 0) (As := [.int 6, .int 0, .int 10]) (rest := [.ref 47]) (c_X10_in 6 0 10 μ) cal_X10_in lk10_45 (by decide +kernel) rfl (by decide +kernel) rfl rfl (Nat.le_of_ble_eq_true rfl) (by decide) (by decide) (fun _ _ h9 => h9.elim) ?_
  rintro _ _ ⟨rfl, h9⟩; rw [h9]; clear h9
  show pm_V _ _ _ _ 8 _ [.int (lr_b (lr_in 6 0 10)), .ref 47] _
  refine pm_ifb_eq (off := 7) 15 (by decide +kernel) (by decide) (fun (h9 : (lr_in 6 0 10) = false) => absurd (h9.symm.trans (show lr_in 6 0 10 = true by decide)) (by decide)) (fun (h8 : (lr_in 6 0 10) = true) => ?_)
  refine pm_bl [(.iconst 0, 1, 0, 0, 0), (.goto 4, 3, 16, 0, 0), (.putfield 35, 3, 10, 7, 0), (.aload_n 0, 1, 0, 0, 0), (.getfield 35, 3, 10, 7, 0)] (pc1 := 23) (lo1 := [some (.ref 47), some (.int 6)]) (st1 := [.int ((pm_set μ 47 7 0).1 47 7)]) (μ1 := pm_set μ 47 7 0) (vc := True) rfl (by decide +kernel) rfl trivial ?_
  rw [show (pm_set μ 47 7 0).1 47 7 = 0 from by rw [pm_set_hit] <;> omega]
  refine pm_if_le (off := 5) 28 (by decide +kernel) (by decide) (fun _ => ?_) (fun h9 => absurd h9 (by decide))
  refine pm_bl [(.iload_n 1, 1, 1, 0, 0)] (pc1 := 29) (lo1 := [some (.ref 47), some (.int 6)]) (st1 := [.int 6]) (μ1 := pm_set μ 47 7 0) (vc := True) rfl (by decide +kernel) rfl trivial ?_
  refine pm_tswI (dflt := 117) (a := 0) (b := 9) (offs := #[55, 62, 70, 78, 87, 96, 96, 96, 105, 112]) (len := 55) (off := 96) 125 (by decide +kernel) (by decide) (by decide) (by decide) (by decide) ?_
  refine pm_bl [(.aload_n 0, 1, 0, 0, 0), (.iconst (-1), 1, 0, 0, (-1)), (.iload_n 1, 1, 1, 0, 0), (.iconst 5, 1, 0, 0, 5), (.isub, 1, 0, 0, 0)] (pc1 := 130) (lo1 := [some (.ref 47), some (.int 6)]) (st1 := [.int (6 - 5), .int (-1), .ref 47]) (μ1 := pm_set μ 47 7 0) (vc := True) rfl (by decide +kernel) rfl trivial ?_
  refine pm_callV2 mi_X10_sumOf (ix := 161) (b := 47) (ci := 10) (kc2 := 0) (ks2 := 0) (As := [.int (-1), .int (6 - 5)]) (rest := []) (c_X10_sumOf_n (6 - 5) (pm_set μ 47 7 0) (by first | exact hM | (rw [pm_set_off (by decide)]; exact hM)) hG) cal_X10_sumOf lk10_161 (by decide +kernel) rfl (by decide +kernel) rfl rfl rfl rfl (Nat.le_of_ble_eq_true rfl) (by decide) (by decide) (fun _ _ h9 => h9.elim) ?_
  rintro _ _ ⟨rfl, h9⟩; rw [h9]; clear h9
  show pm_V _ _ _ _ 133 _ [.int (lr_sum (lr_smn g (6 - 5)) (lr_n g 289))] _
  exact pm_iret (ty := .int) rfl rfl (by decide) (by decide) (by decide +kernel) (⟨rfl, rfl⟩)
set_option maxHeartbeats 4000000 in
set_option maxRecDepth 100000 in
theorem c_X10_account_7 {g : Nat → Int32} (μ : pm_Mm) (hM : μ.1 48 = g) (hG : lr_G g) : pm_CT mi_X10_account [.ref 47, .int 7] μ (fun v μ2 => v = some (.int (lr_sum (lr_smn g (7 - 5)) (lr_n g 289))) ∧ μ2 = pm_set μ 47 7 0) pm_NX := by
  refine pm_CT_of (lo := [some (.ref 47), some (.int 7)]) (by decide +kernel) rfl rfl (by intro v hv; simp at hv; rcases hv with rfl | rfl <;> rfl) (Nat.le_of_ble_eq_true rfl) rfl ?_
  have hm1 := lr_mh hG; have hm2 := lr_mw hG; have hm3 := lr_mp hG; have hm4 := lr_mr hG; have hm5 := lr_ma hG; have hm6 := lr_ml hG
  refine pm_bl [(.aload_n 0, 1, 0, 0, 0), (.iload_n 1, 1, 1, 0, 0), (.iconst 0, 1, 0, 0, 0), (.bipush 10, 2, 0, 0, 10)] (pc1 := 5) (lo1 := [some (.ref 47), some (.int 7)]) (st1 := [.int 10, .int 0, .int 7, .ref 47]) (μ1 := μ) (vc := True) rfl (by decide +kernel) rfl trivial ?_
  refine pm_callS2 mi_X10_in (ix := 45) (kc2 := 0) (ks2 := 0) (As := [.int 7, .int 0, .int 10]) (rest := [.ref 47]) (c_X10_in 7 0 10 μ) cal_X10_in lk10_45 (by decide +kernel) rfl (by decide +kernel) rfl rfl (Nat.le_of_ble_eq_true rfl) (by decide) (by decide) (fun _ _ h9 => h9.elim) ?_
  rintro _ _ ⟨rfl, h9⟩; rw [h9]; clear h9
  show pm_V _ _ _ _ 8 _ [.int (lr_b (lr_in 7 0 10)), .ref 47] _
  refine pm_ifb_eq (off := 7) 15 (by decide +kernel) (by decide) (fun (h9 : (lr_in 7 0 10) = false) => absurd (h9.symm.trans (show lr_in 7 0 10 = true by decide)) (by decide)) (fun (h8 : (lr_in 7 0 10) = true) => ?_)
  refine pm_bl [(.iconst 0, 1, 0, 0, 0), (.goto 4, 3, 16, 0, 0), (.putfield 35, 3, 10, 7, 0), (.aload_n 0, 1, 0, 0, 0), (.getfield 35, 3, 10, 7, 0)] (pc1 := 23) (lo1 := [some (.ref 47), some (.int 7)]) (st1 := [.int ((pm_set μ 47 7 0).1 47 7)]) (μ1 := pm_set μ 47 7 0) (vc := True) rfl (by decide +kernel) rfl trivial ?_
  rw [show (pm_set μ 47 7 0).1 47 7 = 0 from by rw [pm_set_hit] <;> omega]
  refine pm_if_le (off := 5) 28 (by decide +kernel) (by decide) (fun _ => ?_) (fun h9 => absurd h9 (by decide))
  refine pm_bl [(.iload_n 1, 1, 1, 0, 0)] (pc1 := 29) (lo1 := [some (.ref 47), some (.int 7)]) (st1 := [.int 7]) (μ1 := pm_set μ 47 7 0) (vc := True) rfl (by decide +kernel) rfl trivial ?_
  refine pm_tswI (dflt := 117) (a := 0) (b := 9) (offs := #[55, 62, 70, 78, 87, 96, 96, 96, 105, 112]) (len := 55) (off := 96) 125 (by decide +kernel) (by decide) (by decide) (by decide) (by decide) ?_
  refine pm_bl [(.aload_n 0, 1, 0, 0, 0), (.iconst (-1), 1, 0, 0, (-1)), (.iload_n 1, 1, 1, 0, 0), (.iconst 5, 1, 0, 0, 5), (.isub, 1, 0, 0, 0)] (pc1 := 130) (lo1 := [some (.ref 47), some (.int 7)]) (st1 := [.int (7 - 5), .int (-1), .ref 47]) (μ1 := pm_set μ 47 7 0) (vc := True) rfl (by decide +kernel) rfl trivial ?_
  refine pm_callV2 mi_X10_sumOf (ix := 161) (b := 47) (ci := 10) (kc2 := 0) (ks2 := 0) (As := [.int (-1), .int (7 - 5)]) (rest := []) (c_X10_sumOf_n (7 - 5) (pm_set μ 47 7 0) (by first | exact hM | (rw [pm_set_off (by decide)]; exact hM)) hG) cal_X10_sumOf lk10_161 (by decide +kernel) rfl (by decide +kernel) rfl rfl rfl rfl (Nat.le_of_ble_eq_true rfl) (by decide) (by decide) (fun _ _ h9 => h9.elim) ?_
  rintro _ _ ⟨rfl, h9⟩; rw [h9]; clear h9
  show pm_V _ _ _ _ 133 _ [.int (lr_sum (lr_smn g (7 - 5)) (lr_n g 289))] _
  exact pm_iret (ty := .int) rfl rfl (by decide) (by decide) (by decide +kernel) (⟨rfl, rfl⟩)
set_option maxHeartbeats 4000000 in
set_option maxRecDepth 100000 in
theorem c_X10_account_8 {g : Nat → Int32} (μ : pm_Mm) (hM : μ.1 48 = g) (hG : lr_G g) : pm_CT mi_X10_account [.ref 47, .int 8] μ (fun v μ2 => v = some (.int (lr_sum (lr_smt g 1 0) (lr_n g 289))) ∧ μ2 = pm_set μ 47 7 0) pm_NX := by
  refine pm_CT_of (lo := [some (.ref 47), some (.int 8)]) (by decide +kernel) rfl rfl (by intro v hv; simp at hv; rcases hv with rfl | rfl <;> rfl) (Nat.le_of_ble_eq_true rfl) rfl ?_
  have hm1 := lr_mh hG; have hm2 := lr_mw hG; have hm3 := lr_mp hG; have hm4 := lr_mr hG; have hm5 := lr_ma hG; have hm6 := lr_ml hG
  refine pm_bl [(.aload_n 0, 1, 0, 0, 0), (.iload_n 1, 1, 1, 0, 0), (.iconst 0, 1, 0, 0, 0), (.bipush 10, 2, 0, 0, 10)] (pc1 := 5) (lo1 := [some (.ref 47), some (.int 8)]) (st1 := [.int 10, .int 0, .int 8, .ref 47]) (μ1 := μ) (vc := True) rfl (by decide +kernel) rfl trivial ?_
  refine pm_callS2 mi_X10_in (ix := 45) (kc2 := 0) (ks2 := 0) (As := [.int 8, .int 0, .int 10]) (rest := [.ref 47]) (c_X10_in 8 0 10 μ) cal_X10_in lk10_45 (by decide +kernel) rfl (by decide +kernel) rfl rfl (Nat.le_of_ble_eq_true rfl) (by decide) (by decide) (fun _ _ h9 => h9.elim) ?_
  rintro _ _ ⟨rfl, h9⟩; rw [h9]; clear h9
  show pm_V _ _ _ _ 8 _ [.int (lr_b (lr_in 8 0 10)), .ref 47] _
  refine pm_ifb_eq (off := 7) 15 (by decide +kernel) (by decide) (fun (h9 : (lr_in 8 0 10) = false) => absurd (h9.symm.trans (show lr_in 8 0 10 = true by decide)) (by decide)) (fun (h8 : (lr_in 8 0 10) = true) => ?_)
  refine pm_bl [(.iconst 0, 1, 0, 0, 0), (.goto 4, 3, 16, 0, 0), (.putfield 35, 3, 10, 7, 0), (.aload_n 0, 1, 0, 0, 0), (.getfield 35, 3, 10, 7, 0)] (pc1 := 23) (lo1 := [some (.ref 47), some (.int 8)]) (st1 := [.int ((pm_set μ 47 7 0).1 47 7)]) (μ1 := pm_set μ 47 7 0) (vc := True) rfl (by decide +kernel) rfl trivial ?_
  rw [show (pm_set μ 47 7 0).1 47 7 = 0 from by rw [pm_set_hit] <;> omega]
  refine pm_if_le (off := 5) 28 (by decide +kernel) (by decide) (fun _ => ?_) (fun h9 => absurd h9 (by decide))
  refine pm_bl [(.iload_n 1, 1, 1, 0, 0)] (pc1 := 29) (lo1 := [some (.ref 47), some (.int 8)]) (st1 := [.int 8]) (μ1 := pm_set μ 47 7 0) (vc := True) rfl (by decide +kernel) rfl trivial ?_
  refine pm_tswI (dflt := 117) (a := 0) (b := 9) (offs := #[55, 62, 70, 78, 87, 96, 96, 96, 105, 112]) (len := 55) (off := 105) 134 (by decide +kernel) (by decide) (by decide) (by decide) (by decide) ?_
  refine pm_bl [(.aload_n 0, 1, 0, 0, 0), (.iconst 1, 1, 0, 0, 1), (.iconst 0, 1, 0, 0, 0)] (pc1 := 137) (lo1 := [some (.ref 47), some (.int 8)]) (st1 := [.int 0, .int 1, .ref 47]) (μ1 := pm_set μ 47 7 0) (vc := True) rfl (by decide +kernel) rfl trivial ?_
  refine pm_callV2 mi_X10_sumOf (ix := 161) (b := 47) (ci := 10) (kc2 := 0) (ks2 := 0) (As := [.int 1, .int 0]) (rest := []) (c_X10_sumOf_t (c := 1) (by decide) 0 (pm_set μ 47 7 0) (by first | exact hM | (rw [pm_set_off (by decide)]; exact hM)) hG) cal_X10_sumOf lk10_161 (by decide +kernel) rfl (by decide +kernel) rfl rfl rfl rfl (Nat.le_of_ble_eq_true rfl) (by decide) (by decide) (fun _ _ h9 => h9.elim) ?_
  rintro _ _ ⟨rfl, h9⟩; rw [h9]; clear h9
  show pm_V _ _ _ _ 140 _ [.int (lr_sum (lr_smt g 1 0) (lr_n g 289))] _
  exact pm_iret (ty := .int) rfl rfl (by decide) (by decide) (by decide +kernel) (⟨rfl, rfl⟩)
set_option maxHeartbeats 4000000 in
set_option maxRecDepth 100000 in
theorem c_X10_account_9 {g : Nat → Int32} (μ : pm_Mm) (hM : μ.1 48 = g) (hG : lr_G g) : pm_CT mi_X10_account [.ref 47, .int 9] μ (fun v μ2 => v = some (.int (lr_sum (fun h => lr_b (decide (lr_sv g h < 0))) (lr_n g 2))) ∧ μ2 = pm_set μ 47 7 0) pm_NX := by
  refine pm_CT_of (lo := [some (.ref 47), some (.int 9)]) (by decide +kernel) rfl rfl (by intro v hv; simp at hv; rcases hv with rfl | rfl <;> rfl) (Nat.le_of_ble_eq_true rfl) rfl ?_
  have hm1 := lr_mh hG; have hm2 := lr_mw hG; have hm3 := lr_mp hG; have hm4 := lr_mr hG; have hm5 := lr_ma hG; have hm6 := lr_ml hG
  refine pm_bl [(.aload_n 0, 1, 0, 0, 0), (.iload_n 1, 1, 1, 0, 0), (.iconst 0, 1, 0, 0, 0), (.bipush 10, 2, 0, 0, 10)] (pc1 := 5) (lo1 := [some (.ref 47), some (.int 9)]) (st1 := [.int 10, .int 0, .int 9, .ref 47]) (μ1 := μ) (vc := True) rfl (by decide +kernel) rfl trivial ?_
  refine pm_callS2 mi_X10_in (ix := 45) (kc2 := 0) (ks2 := 0) (As := [.int 9, .int 0, .int 10]) (rest := [.ref 47]) (c_X10_in 9 0 10 μ) cal_X10_in lk10_45 (by decide +kernel) rfl (by decide +kernel) rfl rfl (Nat.le_of_ble_eq_true rfl) (by decide) (by decide) (fun _ _ h9 => h9.elim) ?_
  rintro _ _ ⟨rfl, h9⟩; rw [h9]; clear h9
  show pm_V _ _ _ _ 8 _ [.int (lr_b (lr_in 9 0 10)), .ref 47] _
  refine pm_ifb_eq (off := 7) 15 (by decide +kernel) (by decide) (fun (h9 : (lr_in 9 0 10) = false) => absurd (h9.symm.trans (show lr_in 9 0 10 = true by decide)) (by decide)) (fun (h8 : (lr_in 9 0 10) = true) => ?_)
  refine pm_bl [(.iconst 0, 1, 0, 0, 0), (.goto 4, 3, 16, 0, 0), (.putfield 35, 3, 10, 7, 0), (.aload_n 0, 1, 0, 0, 0), (.getfield 35, 3, 10, 7, 0)] (pc1 := 23) (lo1 := [some (.ref 47), some (.int 9)]) (st1 := [.int ((pm_set μ 47 7 0).1 47 7)]) (μ1 := pm_set μ 47 7 0) (vc := True) rfl (by decide +kernel) rfl trivial ?_
  rw [show (pm_set μ 47 7 0).1 47 7 = 0 from by rw [pm_set_hit] <;> omega]
  refine pm_if_le (off := 5) 28 (by decide +kernel) (by decide) (fun _ => ?_) (fun h9 => absurd h9 (by decide))
  refine pm_bl [(.iload_n 1, 1, 1, 0, 0)] (pc1 := 29) (lo1 := [some (.ref 47), some (.int 9)]) (st1 := [.int 9]) (μ1 := pm_set μ 47 7 0) (vc := True) rfl (by decide +kernel) rfl trivial ?_
  refine pm_tswI (dflt := 117) (a := 0) (b := 9) (offs := #[55, 62, 70, 78, 87, 96, 96, 96, 105, 112]) (len := 55) (off := 112) 141 (by decide +kernel) (by decide) (by decide) (by decide) (by decide) ?_
  refine pm_bl [(.aload_n 0, 1, 0, 0, 0)] (pc1 := 142) (lo1 := [some (.ref 47), some (.int 9)]) (st1 := [.ref 47]) (μ1 := pm_set μ 47 7 0) (vc := True) rfl (by decide +kernel) rfl trivial ?_
  refine pm_callV2 mi_X10_notServed (ix := 164) (b := 47) (ci := 10) (kc2 := 0) (ks2 := 0) (As := []) (rest := []) (c_X10_notServed (pm_set μ 47 7 0) (by first | exact hM | (rw [pm_set_off (by decide)]; exact hM)) hG) cal_X10_notServed lk10_164 (by decide +kernel) rfl (by decide +kernel) rfl rfl rfl rfl (Nat.le_of_ble_eq_true rfl) (by decide) (by decide) (fun _ _ h9 => h9.elim) ?_
  rintro _ _ ⟨rfl, h9⟩; rw [h9]; clear h9
  show pm_V _ _ _ _ 145 _ [.int (lr_sum (fun h => lr_b (decide (lr_sv g h < 0))) (lr_n g 2))] _
  exact pm_iret (ty := .int) rfl rfl (by decide) (by decide) (by decide +kernel) (⟨rfl, rfl⟩)
set_option maxHeartbeats 4000000 in
set_option maxRecDepth 100000 in
theorem c_X10_account_10 {g : Nat → Int32} (μ : pm_Mm) (hM : μ.1 48 = g) (hG : lr_G g) : pm_CT mi_X10_account [.ref 47, .int 10] μ (fun v μ2 => v = some (.int (lr_sum (lr_smt g 7 (-1)) (lr_n g 289))) ∧ μ2 = pm_set μ 47 7 0) pm_NX := by
  refine pm_CT_of (lo := [some (.ref 47), some (.int 10)]) (by decide +kernel) rfl rfl (by intro v hv; simp at hv; rcases hv with rfl | rfl <;> rfl) (Nat.le_of_ble_eq_true rfl) rfl ?_
  have hm1 := lr_mh hG; have hm2 := lr_mw hG; have hm3 := lr_mp hG; have hm4 := lr_mr hG; have hm5 := lr_ma hG; have hm6 := lr_ml hG
  refine pm_bl [(.aload_n 0, 1, 0, 0, 0), (.iload_n 1, 1, 1, 0, 0), (.iconst 0, 1, 0, 0, 0), (.bipush 10, 2, 0, 0, 10)] (pc1 := 5) (lo1 := [some (.ref 47), some (.int 10)]) (st1 := [.int 10, .int 0, .int 10, .ref 47]) (μ1 := μ) (vc := True) rfl (by decide +kernel) rfl trivial ?_
  refine pm_callS2 mi_X10_in (ix := 45) (kc2 := 0) (ks2 := 0) (As := [.int 10, .int 0, .int 10]) (rest := [.ref 47]) (c_X10_in 10 0 10 μ) cal_X10_in lk10_45 (by decide +kernel) rfl (by decide +kernel) rfl rfl (Nat.le_of_ble_eq_true rfl) (by decide) (by decide) (fun _ _ h9 => h9.elim) ?_
  rintro _ _ ⟨rfl, h9⟩; rw [h9]; clear h9
  show pm_V _ _ _ _ 8 _ [.int (lr_b (lr_in 10 0 10)), .ref 47] _
  refine pm_ifb_eq (off := 7) 15 (by decide +kernel) (by decide) (fun (h9 : (lr_in 10 0 10) = false) => absurd (h9.symm.trans (show lr_in 10 0 10 = true by decide)) (by decide)) (fun (h8 : (lr_in 10 0 10) = true) => ?_)
  refine pm_bl [(.iconst 0, 1, 0, 0, 0), (.goto 4, 3, 16, 0, 0), (.putfield 35, 3, 10, 7, 0), (.aload_n 0, 1, 0, 0, 0), (.getfield 35, 3, 10, 7, 0)] (pc1 := 23) (lo1 := [some (.ref 47), some (.int 10)]) (st1 := [.int ((pm_set μ 47 7 0).1 47 7)]) (μ1 := pm_set μ 47 7 0) (vc := True) rfl (by decide +kernel) rfl trivial ?_
  rw [show (pm_set μ 47 7 0).1 47 7 = 0 from by rw [pm_set_hit] <;> omega]
  refine pm_if_le (off := 5) 28 (by decide +kernel) (by decide) (fun _ => ?_) (fun h9 => absurd h9 (by decide))
  refine pm_bl [(.iload_n 1, 1, 1, 0, 0)] (pc1 := 29) (lo1 := [some (.ref 47), some (.int 10)]) (st1 := [.int 10]) (μ1 := pm_set μ 47 7 0) (vc := True) rfl (by decide +kernel) rfl trivial ?_
  refine pm_tswO (dflt := 117) (a := 0) (b := 9) (offs := #[55, 62, 70, 78, 87, 96, 96, 96, 105, 112]) (len := 55) 146 (by decide +kernel) (Or.inr (by decide)) (by decide) ?_
  refine pm_bl [(.aload_n 0, 1, 0, 0, 0), (.bipush 7, 2, 0, 0, 7), (.iconst (-1), 1, 0, 0, (-1))] (pc1 := 150) (lo1 := [some (.ref 47), some (.int 10)]) (st1 := [.int (-1), .int 7, .ref 47]) (μ1 := pm_set μ 47 7 0) (vc := True) rfl (by decide +kernel) rfl trivial ?_
  refine pm_callV2 mi_X10_sumOf (ix := 161) (b := 47) (ci := 10) (kc2 := 0) (ks2 := 0) (As := [.int 7, .int (-1)]) (rest := []) (c_X10_sumOf_t (c := 7) (by decide) (-1) (pm_set μ 47 7 0) (by first | exact hM | (rw [pm_set_off (by decide)]; exact hM)) hG) cal_X10_sumOf lk10_161 (by decide +kernel) rfl (by decide +kernel) rfl rfl rfl rfl (Nat.le_of_ble_eq_true rfl) (by decide) (by decide) (fun _ _ h9 => h9.elim) ?_
  rintro _ _ ⟨rfl, h9⟩; rw [h9]; clear h9
  show pm_V _ _ _ _ 153 _ [.int (lr_sum (lr_smt g 7 (-1)) (lr_n g 289))] _
  exact pm_iret (ty := .int) rfl rfl (by decide) (by decide) (by decide +kernel) (⟨rfl, rfl⟩)
set_option maxHeartbeats 4000000 in
set_option maxRecDepth 100000 in
theorem c_X10_account_no {g : Nat → Int32} {x : Int32} (μ : pm_Mm) (hM : μ.1 48 = g) (hG : lr_G g) (hl : lr_in x 0 10 = false) : pm_CT mi_X10_account [.ref 47, .int x] μ (fun v μ2 => v = some (.int 0) ∧ μ2 = pm_set μ 47 7 1) pm_NX := by
  refine pm_CT_of (lo := [some (.ref 47), some (.int x)]) (by decide +kernel) rfl rfl (by intro v hv; simp at hv; rcases hv with rfl | rfl <;> rfl) (Nat.le_of_ble_eq_true rfl) rfl ?_
  have hm1 := lr_mh hG; have hm2 := lr_mw hG; have hm3 := lr_mp hG; have hm4 := lr_mr hG; have hm5 := lr_ma hG; have hm6 := lr_ml hG
  refine pm_bl [(.aload_n 0, 1, 0, 0, 0), (.iload_n 1, 1, 1, 0, 0), (.iconst 0, 1, 0, 0, 0), (.bipush 10, 2, 0, 0, 10)] (pc1 := 5) (lo1 := [some (.ref 47), some (.int x)]) (st1 := [.int 10, .int 0, .int x, .ref 47]) (μ1 := μ) (vc := True) rfl (by decide +kernel) rfl trivial ?_
  refine pm_callS2 mi_X10_in (ix := 45) (kc2 := 0) (ks2 := 0) (As := [.int x, .int 0, .int 10]) (rest := [.ref 47]) (c_X10_in x 0 10 μ) cal_X10_in lk10_45 (by decide +kernel) rfl (by decide +kernel) rfl rfl (Nat.le_of_ble_eq_true rfl) (by decide) (by decide) (fun _ _ h9 => h9.elim) ?_
  rintro _ _ ⟨rfl, h9⟩; rw [h9]; clear h9
  show pm_V _ _ _ _ 8 _ [.int (lr_b (lr_in x 0 10)), .ref 47] _
  refine pm_ifb_eq (off := 7) 15 (by decide +kernel) (by decide) (fun (h8 : (lr_in x 0 10) = false) => ?_) (fun (h9 : (lr_in x 0 10) = true) => absurd (hl.symm.trans h9) (by decide))
  refine pm_bl [(.iconst 1, 1, 0, 0, 1), (.putfield 35, 3, 10, 7, 0), (.aload_n 0, 1, 0, 0, 0), (.getfield 35, 3, 10, 7, 0)] (pc1 := 23) (lo1 := [some (.ref 47), some (.int x)]) (st1 := [.int ((pm_set μ 47 7 1).1 47 7)]) (μ1 := pm_set μ 47 7 1) (vc := True) rfl (by decide +kernel) rfl trivial ?_
  rw [show (pm_set μ 47 7 1).1 47 7 = 1 from by rw [pm_set_hit] <;> omega]
  refine pm_if_le (off := 5) 28 (by decide +kernel) (by decide) (fun h9 => absurd h9 (by decide)) (fun _ => ?_)
  refine pm_bl [(.iconst 0, 1, 0, 0, 0)] (pc1 := 27) (lo1 := [some (.ref 47), some (.int x)]) (st1 := [.int 0]) (μ1 := pm_set μ 47 7 1) (vc := True) rfl (by decide +kernel) rfl trivial ?_
  exact pm_iret (ty := .int) rfl rfl (by decide) (by decide) (by decide +kernel) (⟨rfl, rfl⟩)
set_option maxHeartbeats 4000000 in
set_option maxRecDepth 100000 in
theorem c_X10_meanDays_no {g : Nat → Int32} (μ : pm_Mm) (hM : μ.1 48 = g) (hG : lr_G g) (hz : lr_sum (lr_smn g 1) (lr_n g 289) = 0) : pm_CT mi_X10_meanDays [.ref 47] μ (fun v μ2 => v = some (.double FP.dconst0) ∧ μ2 = pm_set μ 47 7 1) pm_NX := by
  refine pm_CT_of (lo := [some (.ref 47), none]) (by decide +kernel) rfl rfl (by intro v hv; simp at hv; rcases hv with rfl <;> rfl) (Nat.le_of_ble_eq_true rfl) rfl ?_
  have hm1 := lr_mh hG; have hm2 := lr_mw hG; have hm3 := lr_mp hG; have hm4 := lr_mr hG; have hm5 := lr_ma hG; have hm6 := lr_ml hG
  refine pm_bl [(.aload_n 0, 1, 0, 0, 0), (.iconst (-1), 1, 0, 0, (-1)), (.iconst 1, 1, 0, 0, 1)] (pc1 := 3) (lo1 := [some (.ref 47), none]) (st1 := [.int 1, .int (-1), .ref 47]) (μ1 := μ) (vc := True) rfl (by decide +kernel) rfl trivial ?_
  refine pm_callV2 mi_X10_sumOf (ix := 161) (b := 47) (ci := 10) (kc2 := 0) (ks2 := 0) (As := [.int (-1), .int 1]) (rest := []) (c_X10_sumOf_n 1 μ (by first | exact hM | (rw [pm_set_off (by decide)]; exact hM)) hG) cal_X10_sumOf lk10_161 (by decide +kernel) rfl (by decide +kernel) rfl rfl rfl rfl (Nat.le_of_ble_eq_true rfl) (by decide) (by decide) (fun _ _ h9 => h9.elim) ?_
  rintro _ _ ⟨rfl, h9⟩; rw [h9]; clear h9
  show pm_V _ _ _ _ 6 _ [.int (lr_sum (lr_smn g 1) (lr_n g 289))] _
  refine pm_bl [(.istore_n 1, 1, 1, 0, 0), (.aload_n 0, 1, 0, 0, 0), (.iload_n 1, 1, 1, 0, 0)] (pc1 := 9) (lo1 := [some (.ref 47), some (.int (lr_sum (lr_smn g 1) (lr_n g 289)))]) (st1 := [.int (lr_sum (lr_smn g 1) (lr_n g 289)), .ref 47]) (μ1 := μ) (vc := True) rfl (by decide +kernel) rfl trivial ?_
  refine pm_if_ne (off := 7) 16 (by decide +kernel) (by decide) (fun (h9 : ¬ (lr_sum (lr_smn g 1) (lr_n g 289)) = 0) => absurd hz h9) (fun (h9 : (lr_sum (lr_smn g 1) (lr_n g 289)) = 0) => ?_)
  refine pm_bl [(.iconst 1, 1, 0, 0, 1), (.goto 4, 3, 17, 0, 0), (.putfield 35, 3, 10, 7, 0), (.aload_n 0, 1, 0, 0, 0), (.getfield 35, 3, 10, 7, 0)] (pc1 := 24) (lo1 := [some (.ref 47), some (.int (lr_sum (lr_smn g 1) (lr_n g 289)))]) (st1 := [.int ((pm_set μ 47 7 1).1 47 7)]) (μ1 := pm_set μ 47 7 1) (vc := True) rfl (by decide +kernel) rfl trivial ?_
  rw [show (pm_set μ 47 7 1).1 47 7 = 1 from by rw [pm_set_hit] <;> omega]
  refine pm_if_le (off := 7) 31 (by decide +kernel) (by decide) (fun h9 => absurd h9 (by decide)) (fun _ => ?_)
  refine pm_s_dconst0 (by decide +kernel) ?_
  refine pm_bl [(.goto 20, 3, 48, 0, 0)] (pc1 := 48) (lo1 := [some (.ref 47), some (.int (lr_sum (lr_smn g 1) (lr_n g 289)))]) (st1 := [.double FP.dconst0]) (μ1 := pm_set μ 47 7 1) (vc := True) rfl (by decide +kernel) rfl trivial ?_
  exact pm_dret rfl (by decide) (by decide) (by decide +kernel) (⟨rfl, rfl⟩)
set_option maxHeartbeats 4000000 in
set_option maxRecDepth 100000 in
theorem c_X10_meanDays {g : Nat → Int32} (μ : pm_Mm) (hM : μ.1 48 = g) (hG : lr_G g) (hz : ¬ lr_sum (lr_smn g 1) (lr_n g 289) = 0) : pm_CT mi_X10_meanDays [.ref 47] μ (fun v μ2 => v = some (.double (FP.ddiv (FP.i2d (lr_sum (lr_smt g 5 1) (lr_n g 289) - lr_sum (lr_smt g 3 1) (lr_n g 289))) (FP.i2d (lr_sum (lr_smn g 1) (lr_n g 289))))) ∧ μ2 = pm_set μ 47 7 0) pm_NX := by
  refine pm_CT_of (lo := [some (.ref 47), none]) (by decide +kernel) rfl rfl (by intro v hv; simp at hv; rcases hv with rfl <;> rfl) (Nat.le_of_ble_eq_true rfl) rfl ?_
  have hm1 := lr_mh hG; have hm2 := lr_mw hG; have hm3 := lr_mp hG; have hm4 := lr_mr hG; have hm5 := lr_ma hG; have hm6 := lr_ml hG
  refine pm_bl [(.aload_n 0, 1, 0, 0, 0), (.iconst (-1), 1, 0, 0, (-1)), (.iconst 1, 1, 0, 0, 1)] (pc1 := 3) (lo1 := [some (.ref 47), none]) (st1 := [.int 1, .int (-1), .ref 47]) (μ1 := μ) (vc := True) rfl (by decide +kernel) rfl trivial ?_
  refine pm_callV2 mi_X10_sumOf (ix := 161) (b := 47) (ci := 10) (kc2 := 0) (ks2 := 0) (As := [.int (-1), .int 1]) (rest := []) (c_X10_sumOf_n 1 μ (by first | exact hM | (rw [pm_set_off (by decide)]; exact hM)) hG) cal_X10_sumOf lk10_161 (by decide +kernel) rfl (by decide +kernel) rfl rfl rfl rfl (Nat.le_of_ble_eq_true rfl) (by decide) (by decide) (fun _ _ h9 => h9.elim) ?_
  rintro _ _ ⟨rfl, h9⟩; rw [h9]; clear h9
  show pm_V _ _ _ _ 6 _ [.int (lr_sum (lr_smn g 1) (lr_n g 289))] _
  refine pm_bl [(.istore_n 1, 1, 1, 0, 0), (.aload_n 0, 1, 0, 0, 0), (.iload_n 1, 1, 1, 0, 0)] (pc1 := 9) (lo1 := [some (.ref 47), some (.int (lr_sum (lr_smn g 1) (lr_n g 289)))]) (st1 := [.int (lr_sum (lr_smn g 1) (lr_n g 289)), .ref 47]) (μ1 := μ) (vc := True) rfl (by decide +kernel) rfl trivial ?_
  refine pm_if_ne (off := 7) 16 (by decide +kernel) (by decide) (fun (h9 : ¬ (lr_sum (lr_smn g 1) (lr_n g 289)) = 0) => ?_) (fun (h9 : (lr_sum (lr_smn g 1) (lr_n g 289)) = 0) => absurd h9 hz)
  refine pm_bl [(.iconst 0, 1, 0, 0, 0), (.putfield 35, 3, 10, 7, 0), (.aload_n 0, 1, 0, 0, 0), (.getfield 35, 3, 10, 7, 0)] (pc1 := 24) (lo1 := [some (.ref 47), some (.int (lr_sum (lr_smn g 1) (lr_n g 289)))]) (st1 := [.int ((pm_set μ 47 7 0).1 47 7)]) (μ1 := pm_set μ 47 7 0) (vc := True) rfl (by decide +kernel) rfl trivial ?_
  rw [show (pm_set μ 47 7 0).1 47 7 = 0 from by rw [pm_set_hit] <;> omega]
  refine pm_if_le (off := 7) 31 (by decide +kernel) (by decide) (fun _ => ?_) (fun h9 => absurd h9 (by decide))
  refine pm_bl [(.aload_n 0, 1, 0, 0, 0), (.iconst 5, 1, 0, 0, 5), (.iconst 1, 1, 0, 0, 1)] (pc1 := 34) (lo1 := [some (.ref 47), some (.int (lr_sum (lr_smn g 1) (lr_n g 289)))]) (st1 := [.int 1, .int 5, .ref 47]) (μ1 := pm_set μ 47 7 0) (vc := True) rfl (by decide +kernel) rfl trivial ?_
  refine pm_callV2 mi_X10_sumOf (ix := 161) (b := 47) (ci := 10) (kc2 := 0) (ks2 := 0) (As := [.int 5, .int 1]) (rest := []) (c_X10_sumOf_t (c := 5) (by decide) 1 (pm_set μ 47 7 0) (by first | exact hM | (rw [pm_set_off (by decide)]; exact hM)) hG) cal_X10_sumOf lk10_161 (by decide +kernel) rfl (by decide +kernel) rfl rfl rfl rfl (Nat.le_of_ble_eq_true rfl) (by decide) (by decide) (fun _ _ h9 => h9.elim) ?_
  rintro _ _ ⟨rfl, h9⟩; rw [h9]; clear h9
  show pm_V _ _ _ _ 37 _ [.int (lr_sum (lr_smt g 5 1) (lr_n g 289))] _
  refine pm_bl [(.aload_n 0, 1, 0, 0, 0), (.iconst 3, 1, 0, 0, 3), (.iconst 1, 1, 0, 0, 1)] (pc1 := 40) (lo1 := [some (.ref 47), some (.int (lr_sum (lr_smn g 1) (lr_n g 289)))]) (st1 := [.int 1, .int 3, .ref 47, .int (lr_sum (lr_smt g 5 1) (lr_n g 289))]) (μ1 := pm_set μ 47 7 0) (vc := True) rfl (by decide +kernel) rfl trivial ?_
  refine pm_callV2 mi_X10_sumOf (ix := 161) (b := 47) (ci := 10) (kc2 := 0) (ks2 := 0) (As := [.int 3, .int 1]) (rest := [.int (lr_sum (lr_smt g 5 1) (lr_n g 289))]) (c_X10_sumOf_t (c := 3) (by decide) 1 (pm_set μ 47 7 0) (by first | exact hM | (rw [pm_set_off (by decide)]; exact hM)) hG) cal_X10_sumOf lk10_161 (by decide +kernel) rfl (by decide +kernel) rfl rfl rfl rfl (Nat.le_of_ble_eq_true rfl) (by decide) (by decide) (fun _ _ h9 => h9.elim) ?_
  rintro _ _ ⟨rfl, h9⟩; rw [h9]; clear h9
  show pm_V _ _ _ _ 43 _ [.int (lr_sum (lr_smt g 3 1) (lr_n g 289)), .int (lr_sum (lr_smt g 5 1) (lr_n g 289))] _
  refine pm_bl [(.isub, 1, 0, 0, 0)] (pc1 := 44) (lo1 := [some (.ref 47), some (.int (lr_sum (lr_smn g 1) (lr_n g 289)))]) (st1 := [.int ((lr_sum (lr_smt g 5 1) (lr_n g 289)) - (lr_sum (lr_smt g 3 1) (lr_n g 289)))]) (μ1 := pm_set μ 47 7 0) (vc := True) rfl (by decide +kernel) rfl trivial ?_
  refine pm_s_i2d (by decide +kernel) ?_
  refine pm_bl [(.iload_n 1, 1, 1, 0, 0)] (pc1 := 46) (lo1 := [some (.ref 47), some (.int (lr_sum (lr_smn g 1) (lr_n g 289)))]) (st1 := [.int (lr_sum (lr_smn g 1) (lr_n g 289)), .double (FP.i2d ((lr_sum (lr_smt g 5 1) (lr_n g 289)) - (lr_sum (lr_smt g 3 1) (lr_n g 289))))]) (μ1 := pm_set μ 47 7 0) (vc := True) rfl (by decide +kernel) rfl trivial ?_
  refine pm_s_i2d (by decide +kernel) ?_
  refine pm_s_ddiv (by decide +kernel) (lr_dnan hz) ?_
  exact pm_dret rfl (by decide) (by decide) (by decide +kernel) (⟨rfl, rfl⟩)
