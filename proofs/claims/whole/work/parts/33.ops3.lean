/-! the model: walks and houses added -/
/-- what a walk to be added must keep -/
def lr_wok (x1 x2 x3 x4 x5 : Int32) : Bool := lr_in x1 0 4 && lr_in x2 0 2 && lr_in x3 0 1 && lr_in x4 1 x5 && decide (x5 ≤ 99)
set_option maxHeartbeats 4000000 in
set_option maxRecDepth 100000 in
theorem c_X10_addWalk_no1 {g : Nat → Int32} {x1 x2 x3 x4 x5 : Int32} (μ : pm_Mm) (hM : μ.1 48 = g) (hG : lr_G g) (hw : lr_wok x1 x2 x3 x4 x5 = false) : pm_CT mi_X10_addWalk [.ref 47, .int x1, .int x2, .int x3, .int x4, .int x5] μ (fun v μ2 => v = some (.int 0) ∧ μ2 = pm_set μ 47 7 1) pm_NX := by
  refine pm_CT_of (lo := [some (.ref 47), some (.int x1), some (.int x2), some (.int x3), some (.int x4), some (.int x5), none]) (by decide +kernel) rfl rfl (by intro v hv; simp at hv; rcases hv with rfl | rfl | rfl | rfl | rfl | rfl <;> rfl) (Nat.le_of_ble_eq_true rfl) rfl ?_
  have hm1 := lr_mh hG; have hm2 := lr_mw hG; have hm3 := lr_mp hG; have hm4 := lr_mr hG; have hm5 := lr_ma hG; have hm6 := lr_ml hG
  refine pm_bl [(.aload_n 0, 1, 0, 0, 0), (.iload_n 1, 1, 1, 0, 0), (.iconst 0, 1, 0, 0, 0), (.iconst 4, 1, 0, 0, 4)] (pc1 := 4) (lo1 := [some (.ref 47), some (.int x1), some (.int x2), some (.int x3), some (.int x4), some (.int x5), none]) (st1 := [.int 4, .int 0, .int x1, .ref 47]) (μ1 := μ) (vc := True) rfl (by decide +kernel) rfl trivial ?_
  refine pm_callS2 mi_X10_in (ix := 45) (kc2 := 0) (ks2 := 0) (As := [.int x1, .int 0, .int 4]) (rest := [.ref 47]) (c_X10_in x1 0 4 μ) cal_X10_in lk10_45 (by decide +kernel) rfl (by decide +kernel) rfl rfl (Nat.le_of_ble_eq_true rfl) (by decide) (by decide) (fun _ _ h9 => h9.elim) ?_
  rintro _ _ ⟨rfl, h9⟩; rw [h9]; clear h9
  show pm_V _ _ _ _ 7 _ [.int (lr_b (lr_in x1 0 4)), .ref 47] _
  refine pm_ifb_eq (off := 39) 46 (by decide +kernel) (by decide) (fun (h7 : (lr_in x1 0 4) = false) => ?_) (fun (h7 : (lr_in x1 0 4) = true) => ?_)
  · refine pm_bl [(.iconst 1, 1, 0, 0, 1), (.goto 20, 3, 67, 0, 0), (.putfield 35, 3, 10, 7, 0), (.aload_n 0, 1, 0, 0, 0), (.getfield 35, 3, 10, 7, 0)] (pc1 := 74) (lo1 := [some (.ref 47), some (.int x1), some (.int x2), some (.int x3), some (.int x4), some (.int x5), none]) (st1 := [.int ((pm_set μ 47 7 1).1 47 7)]) (μ1 := pm_set μ 47 7 1) (vc := True) rfl (by decide +kernel) rfl trivial ?_
    rw [show (pm_set μ 47 7 1).1 47 7 = 1 from by rw [pm_set_hit] <;> omega]
    refine pm_if_le (off := 5) 79 (by decide +kernel) (by decide) (fun h9 => absurd h9 (by decide)) (fun _ => ?_)
    refine pm_bl [(.iconst 0, 1, 0, 0, 0)] (pc1 := 78) (lo1 := [some (.ref 47), some (.int x1), some (.int x2), some (.int x3), some (.int x4), some (.int x5), none]) (st1 := [.int 0]) (μ1 := pm_set μ 47 7 1) (vc := True) rfl (by decide +kernel) rfl trivial ?_
    exact pm_iret (ty := .int) rfl rfl (by decide) (by decide) (by decide +kernel) (⟨rfl, rfl⟩)
  · refine pm_bl [(.iload_n 2, 1, 2, 0, 0), (.iconst 0, 1, 0, 0, 0), (.iconst 2, 1, 0, 0, 2)] (pc1 := 13) (lo1 := [some (.ref 47), some (.int x1), some (.int x2), some (.int x3), some (.int x4), some (.int x5), none]) (st1 := [.int 2, .int 0, .int x2, .ref 47]) (μ1 := μ) (vc := True) rfl (by decide +kernel) rfl trivial ?_
    refine pm_callS2 mi_X10_in (ix := 45) (kc2 := 0) (ks2 := 0) (As := [.int x2, .int 0, .int 2]) (rest := [.ref 47]) (c_X10_in x2 0 2 μ) cal_X10_in lk10_45 (by decide +kernel) rfl (by decide +kernel) rfl rfl (Nat.le_of_ble_eq_true rfl) (by decide) (by decide) (fun _ _ h9 => h9.elim) ?_
    rintro _ _ ⟨rfl, h9⟩; rw [h9]; clear h9
    show pm_V _ _ _ _ 16 _ [.int (lr_b (lr_in x2 0 2)), .ref 47] _
    refine pm_ifb_eq (off := 30) 46 (by decide +kernel) (by decide) (fun (h16 : (lr_in x2 0 2) = false) => ?_) (fun (h16 : (lr_in x2 0 2) = true) => ?_)
    · refine pm_bl [(.iconst 1, 1, 0, 0, 1), (.goto 20, 3, 67, 0, 0), (.putfield 35, 3, 10, 7, 0), (.aload_n 0, 1, 0, 0, 0), (.getfield 35, 3, 10, 7, 0)] (pc1 := 74) (lo1 := [some (.ref 47), some (.int x1), some (.int x2), some (.int x3), some (.int x4), some (.int x5), none]) (st1 := [.int ((pm_set μ 47 7 1).1 47 7)]) (μ1 := pm_set μ 47 7 1) (vc := True) rfl (by decide +kernel) rfl trivial ?_
      rw [show (pm_set μ 47 7 1).1 47 7 = 1 from by rw [pm_set_hit] <;> omega]
      refine pm_if_le (off := 5) 79 (by decide +kernel) (by decide) (fun h9 => absurd h9 (by decide)) (fun _ => ?_)
      refine pm_bl [(.iconst 0, 1, 0, 0, 0)] (pc1 := 78) (lo1 := [some (.ref 47), some (.int x1), some (.int x2), some (.int x3), some (.int x4), some (.int x5), none]) (st1 := [.int 0]) (μ1 := pm_set μ 47 7 1) (vc := True) rfl (by decide +kernel) rfl trivial ?_
      exact pm_iret (ty := .int) rfl rfl (by decide) (by decide) (by decide +kernel) (⟨rfl, rfl⟩)
    · refine pm_bl [(.iload_n 3, 1, 3, 0, 0), (.iconst 0, 1, 0, 0, 0), (.iconst 1, 1, 0, 0, 1)] (pc1 := 22) (lo1 := [some (.ref 47), some (.int x1), some (.int x2), some (.int x3), some (.int x4), some (.int x5), none]) (st1 := [.int 1, .int 0, .int x3, .ref 47]) (μ1 := μ) (vc := True) rfl (by decide +kernel) rfl trivial ?_
      refine pm_callS2 mi_X10_in (ix := 45) (kc2 := 0) (ks2 := 0) (As := [.int x3, .int 0, .int 1]) (rest := [.ref 47]) (c_X10_in x3 0 1 μ) cal_X10_in lk10_45 (by decide +kernel) rfl (by decide +kernel) rfl rfl (Nat.le_of_ble_eq_true rfl) (by decide) (by decide) (fun _ _ h9 => h9.elim) ?_
      rintro _ _ ⟨rfl, h9⟩; rw [h9]; clear h9
      show pm_V _ _ _ _ 25 _ [.int (lr_b (lr_in x3 0 1)), .ref 47] _
      refine pm_ifb_eq (off := 21) 46 (by decide +kernel) (by decide) (fun (h25 : (lr_in x3 0 1) = false) => ?_) (fun (h25 : (lr_in x3 0 1) = true) => ?_)
      · refine pm_bl [(.iconst 1, 1, 0, 0, 1), (.goto 20, 3, 67, 0, 0), (.putfield 35, 3, 10, 7, 0), (.aload_n 0, 1, 0, 0, 0), (.getfield 35, 3, 10, 7, 0)] (pc1 := 74) (lo1 := [some (.ref 47), some (.int x1), some (.int x2), some (.int x3), some (.int x4), some (.int x5), none]) (st1 := [.int ((pm_set μ 47 7 1).1 47 7)]) (μ1 := pm_set μ 47 7 1) (vc := True) rfl (by decide +kernel) rfl trivial ?_
        rw [show (pm_set μ 47 7 1).1 47 7 = 1 from by rw [pm_set_hit] <;> omega]
        refine pm_if_le (off := 5) 79 (by decide +kernel) (by decide) (fun h9 => absurd h9 (by decide)) (fun _ => ?_)
        refine pm_bl [(.iconst 0, 1, 0, 0, 0)] (pc1 := 78) (lo1 := [some (.ref 47), some (.int x1), some (.int x2), some (.int x3), some (.int x4), some (.int x5), none]) (st1 := [.int 0]) (μ1 := pm_set μ 47 7 1) (vc := True) rfl (by decide +kernel) rfl trivial ?_
        exact pm_iret (ty := .int) rfl rfl (by decide) (by decide) (by decide +kernel) (⟨rfl, rfl⟩)
      · refine pm_bl [(.iload 4, 2, 4, 0, 0), (.iconst 1, 1, 0, 0, 1), (.iload 5, 2, 5, 0, 0)] (pc1 := 33) (lo1 := [some (.ref 47), some (.int x1), some (.int x2), some (.int x3), some (.int x4), some (.int x5), none]) (st1 := [.int x5, .int 1, .int x4, .ref 47]) (μ1 := μ) (vc := True) rfl (by decide +kernel) rfl trivial ?_
        refine pm_callS2 mi_X10_in (ix := 45) (kc2 := 0) (ks2 := 0) (As := [.int x4, .int 1, .int x5]) (rest := [.ref 47]) (c_X10_in x4 1 x5 μ) cal_X10_in lk10_45 (by decide +kernel) rfl (by decide +kernel) rfl rfl (Nat.le_of_ble_eq_true rfl) (by decide) (by decide) (fun _ _ h9 => h9.elim) ?_
        rintro _ _ ⟨rfl, h9⟩; rw [h9]; clear h9
        show pm_V _ _ _ _ 36 _ [.int (lr_b (lr_in x4 1 x5)), .ref 47] _
        refine pm_ifb_eq (off := 10) 46 (by decide +kernel) (by decide) (fun (h36 : (lr_in x4 1 x5) = false) => ?_) (fun (h36 : (lr_in x4 1 x5) = true) => ?_)
        · refine pm_bl [(.iconst 1, 1, 0, 0, 1), (.goto 20, 3, 67, 0, 0), (.putfield 35, 3, 10, 7, 0), (.aload_n 0, 1, 0, 0, 0), (.getfield 35, 3, 10, 7, 0)] (pc1 := 74) (lo1 := [some (.ref 47), some (.int x1), some (.int x2), some (.int x3), some (.int x4), some (.int x5), none]) (st1 := [.int ((pm_set μ 47 7 1).1 47 7)]) (μ1 := pm_set μ 47 7 1) (vc := True) rfl (by decide +kernel) rfl trivial ?_
          rw [show (pm_set μ 47 7 1).1 47 7 = 1 from by rw [pm_set_hit] <;> omega]
          refine pm_if_le (off := 5) 79 (by decide +kernel) (by decide) (fun h9 => absurd h9 (by decide)) (fun _ => ?_)
          refine pm_bl [(.iconst 0, 1, 0, 0, 0)] (pc1 := 78) (lo1 := [some (.ref 47), some (.int x1), some (.int x2), some (.int x3), some (.int x4), some (.int x5), none]) (st1 := [.int 0]) (μ1 := pm_set μ 47 7 1) (vc := True) rfl (by decide +kernel) rfl trivial ?_
          exact pm_iret (ty := .int) rfl rfl (by decide) (by decide) (by decide +kernel) (⟨rfl, rfl⟩)
        · refine pm_bl [(.iload 5, 2, 5, 0, 0), (.bipush 99, 2, 0, 0, 99)] (pc1 := 43) (lo1 := [some (.ref 47), some (.int x1), some (.int x2), some (.int x3), some (.int x4), some (.int x5), none]) (st1 := [.int 99, .int x5, .ref 47]) (μ1 := μ) (vc := True) rfl (by decide +kernel) rfl trivial ?_
          refine pm_icmp_le (off := 7) 50 (by decide +kernel) (by decide) (fun (h9 : x5 ≤ 99) => absurd hw (by simp [lr_wok, *])) (fun (h43 : ¬ (x5 ≤ 99)) => ?_)
          refine pm_bl [(.iconst 1, 1, 0, 0, 1), (.goto 20, 3, 67, 0, 0), (.putfield 35, 3, 10, 7, 0), (.aload_n 0, 1, 0, 0, 0), (.getfield 35, 3, 10, 7, 0)] (pc1 := 74) (lo1 := [some (.ref 47), some (.int x1), some (.int x2), some (.int x3), some (.int x4), some (.int x5), none]) (st1 := [.int ((pm_set μ 47 7 1).1 47 7)]) (μ1 := pm_set μ 47 7 1) (vc := True) rfl (by decide +kernel) rfl trivial ?_
          rw [show (pm_set μ 47 7 1).1 47 7 = 1 from by rw [pm_set_hit] <;> omega]
          refine pm_if_le (off := 5) 79 (by decide +kernel) (by decide) (fun h9 => absurd h9 (by decide)) (fun _ => ?_)
          refine pm_bl [(.iconst 0, 1, 0, 0, 0)] (pc1 := 78) (lo1 := [some (.ref 47), some (.int x1), some (.int x2), some (.int x3), some (.int x4), some (.int x5), none]) (st1 := [.int 0]) (μ1 := pm_set μ 47 7 1) (vc := True) rfl (by decide +kernel) rfl trivial ?_
          exact pm_iret (ty := .int) rfl rfl (by decide) (by decide) (by decide +kernel) (⟨rfl, rfl⟩)
set_option maxHeartbeats 4000000 in
set_option maxRecDepth 100000 in
theorem c_X10_addWalk_no2 {g : Nat → Int32} {x1 x2 x3 x4 x5 : Int32} (μ : pm_Mm) (hM : μ.1 48 = g) (hG : lr_G g) (hw : lr_wok x1 x2 x3 x4 x5 = true) (hn : lr_n g 116 = 10) : pm_CT mi_X10_addWalk [.ref 47, .int x1, .int x2, .int x3, .int x4, .int x5] μ (fun v μ2 => v = some (.int 0) ∧ μ2 = pm_set μ 47 7 2) pm_NX := by
  refine pm_CT_of (lo := [some (.ref 47), some (.int x1), some (.int x2), some (.int x3), some (.int x4), some (.int x5), none]) (by decide +kernel) rfl rfl (by intro v hv; simp at hv; rcases hv with rfl | rfl | rfl | rfl | rfl | rfl <;> rfl) (Nat.le_of_ble_eq_true rfl) rfl ?_
  have hm1 := lr_mh hG; have hm2 := lr_mw hG; have hm3 := lr_mp hG; have hm4 := lr_mr hG; have hm5 := lr_ma hG; have hm6 := lr_ml hG
  refine pm_bl [(.aload_n 0, 1, 0, 0, 0), (.iload_n 1, 1, 1, 0, 0), (.iconst 0, 1, 0, 0, 0), (.iconst 4, 1, 0, 0, 4)] (pc1 := 4) (lo1 := [some (.ref 47), some (.int x1), some (.int x2), some (.int x3), some (.int x4), some (.int x5), none]) (st1 := [.int 4, .int 0, .int x1, .ref 47]) (μ1 := μ) (vc := True) rfl (by decide +kernel) rfl trivial ?_
  refine pm_callS2 mi_X10_in (ix := 45) (kc2 := 0) (ks2 := 0) (As := [.int x1, .int 0, .int 4]) (rest := [.ref 47]) (c_X10_in x1 0 4 μ) cal_X10_in lk10_45 (by decide +kernel) rfl (by decide +kernel) rfl rfl (Nat.le_of_ble_eq_true rfl) (by decide) (by decide) (fun _ _ h9 => h9.elim) ?_
  rintro _ _ ⟨rfl, h9⟩; rw [h9]; clear h9
  show pm_V _ _ _ _ 7 _ [.int (lr_b (lr_in x1 0 4)), .ref 47] _
  refine pm_ifb_eq (off := 39) 46 (by decide +kernel) (by decide) (fun (h9 : (lr_in x1 0 4) = false) => absurd hw (by simp [lr_wok, *])) (fun (h7 : (lr_in x1 0 4) = true) => ?_)
  refine pm_bl [(.iload_n 2, 1, 2, 0, 0), (.iconst 0, 1, 0, 0, 0), (.iconst 2, 1, 0, 0, 2)] (pc1 := 13) (lo1 := [some (.ref 47), some (.int x1), some (.int x2), some (.int x3), some (.int x4), some (.int x5), none]) (st1 := [.int 2, .int 0, .int x2, .ref 47]) (μ1 := μ) (vc := True) rfl (by decide +kernel) rfl trivial ?_
  refine pm_callS2 mi_X10_in (ix := 45) (kc2 := 0) (ks2 := 0) (As := [.int x2, .int 0, .int 2]) (rest := [.ref 47]) (c_X10_in x2 0 2 μ) cal_X10_in lk10_45 (by decide +kernel) rfl (by decide +kernel) rfl rfl (Nat.le_of_ble_eq_true rfl) (by decide) (by decide) (fun _ _ h9 => h9.elim) ?_
  rintro _ _ ⟨rfl, h9⟩; rw [h9]; clear h9
  show pm_V _ _ _ _ 16 _ [.int (lr_b (lr_in x2 0 2)), .ref 47] _
  refine pm_ifb_eq (off := 30) 46 (by decide +kernel) (by decide) (fun (h9 : (lr_in x2 0 2) = false) => absurd hw (by simp [lr_wok, *])) (fun (h16 : (lr_in x2 0 2) = true) => ?_)
  refine pm_bl [(.iload_n 3, 1, 3, 0, 0), (.iconst 0, 1, 0, 0, 0), (.iconst 1, 1, 0, 0, 1)] (pc1 := 22) (lo1 := [some (.ref 47), some (.int x1), some (.int x2), some (.int x3), some (.int x4), some (.int x5), none]) (st1 := [.int 1, .int 0, .int x3, .ref 47]) (μ1 := μ) (vc := True) rfl (by decide +kernel) rfl trivial ?_
  refine pm_callS2 mi_X10_in (ix := 45) (kc2 := 0) (ks2 := 0) (As := [.int x3, .int 0, .int 1]) (rest := [.ref 47]) (c_X10_in x3 0 1 μ) cal_X10_in lk10_45 (by decide +kernel) rfl (by decide +kernel) rfl rfl (Nat.le_of_ble_eq_true rfl) (by decide) (by decide) (fun _ _ h9 => h9.elim) ?_
  rintro _ _ ⟨rfl, h9⟩; rw [h9]; clear h9
  show pm_V _ _ _ _ 25 _ [.int (lr_b (lr_in x3 0 1)), .ref 47] _
  refine pm_ifb_eq (off := 21) 46 (by decide +kernel) (by decide) (fun (h9 : (lr_in x3 0 1) = false) => absurd hw (by simp [lr_wok, *])) (fun (h25 : (lr_in x3 0 1) = true) => ?_)
  refine pm_bl [(.iload 4, 2, 4, 0, 0), (.iconst 1, 1, 0, 0, 1), (.iload 5, 2, 5, 0, 0)] (pc1 := 33) (lo1 := [some (.ref 47), some (.int x1), some (.int x2), some (.int x3), some (.int x4), some (.int x5), none]) (st1 := [.int x5, .int 1, .int x4, .ref 47]) (μ1 := μ) (vc := True) rfl (by decide +kernel) rfl trivial ?_
  refine pm_callS2 mi_X10_in (ix := 45) (kc2 := 0) (ks2 := 0) (As := [.int x4, .int 1, .int x5]) (rest := [.ref 47]) (c_X10_in x4 1 x5 μ) cal_X10_in lk10_45 (by decide +kernel) rfl (by decide +kernel) rfl rfl (Nat.le_of_ble_eq_true rfl) (by decide) (by decide) (fun _ _ h9 => h9.elim) ?_
  rintro _ _ ⟨rfl, h9⟩; rw [h9]; clear h9
  show pm_V _ _ _ _ 36 _ [.int (lr_b (lr_in x4 1 x5)), .ref 47] _
  refine pm_ifb_eq (off := 10) 46 (by decide +kernel) (by decide) (fun (h9 : (lr_in x4 1 x5) = false) => absurd hw (by simp [lr_wok, *])) (fun (h36 : (lr_in x4 1 x5) = true) => ?_)
  refine pm_bl [(.iload 5, 2, 5, 0, 0), (.bipush 99, 2, 0, 0, 99)] (pc1 := 43) (lo1 := [some (.ref 47), some (.int x1), some (.int x2), some (.int x3), some (.int x4), some (.int x5), none]) (st1 := [.int 99, .int x5, .ref 47]) (μ1 := μ) (vc := True) rfl (by decide +kernel) rfl trivial ?_
  refine pm_icmp_le (off := 7) 50 (by decide +kernel) (by decide) (fun (h43 : x5 ≤ 99) => ?_) (fun (h9 : ¬ (x5 ≤ 99)) => absurd hw (by simp [lr_wok, *]))
  refine pm_bl [(.aload_n 0, 1, 0, 0, 0), (.getfield 7, 3, 10, 0, 0), (.bipush 116, 2, 0, 0, 116), (.iaload, 1, 0, 0, 0)] (pc1 := 57) (lo1 := [some (.ref 47), some (.int x1), some (.int x2), some (.int x3), some (.int x4), some (.int x5), none]) (st1 := [.int (μ.1 48 (116 : Int32).toNatClampNeg), .ref 47]) (μ1 := μ) (vc := vp_in 116 620 ∧ True) rfl (by decide +kernel) rfl ⟨(by unfold vp_in; decide), trivial⟩ ?_
  rw [show (116 : Int32).toNatClampNeg = 116 from by decide, hM, lr_gw hG]
  refine pm_bl [(.bipush 10, 2, 0, 0, 10)] (pc1 := 59) (lo1 := [some (.ref 47), some (.int x1), some (.int x2), some (.int x3), some (.int x4), some (.int x5), none]) (st1 := [.int 10, .int (nI (lr_n g 116)), .ref 47]) (μ1 := μ) (vc := True) rfl (by decide +kernel) rfl trivial ?_
  refine pm_icmp_ne (off := 7) 66 (by decide +kernel) (by decide) (fun (h9 : ¬ (nI (lr_n g 116)) = 10) => absurd (by rw [hn]; decide) h9) (fun (h59 : (nI (lr_n g 116)) = 10) => ?_)
  refine pm_bl [(.iconst 2, 1, 0, 0, 2), (.goto 4, 3, 67, 0, 0), (.putfield 35, 3, 10, 7, 0), (.aload_n 0, 1, 0, 0, 0), (.getfield 35, 3, 10, 7, 0)] (pc1 := 74) (lo1 := [some (.ref 47), some (.int x1), some (.int x2), some (.int x3), some (.int x4), some (.int x5), none]) (st1 := [.int ((pm_set μ 47 7 2).1 47 7)]) (μ1 := pm_set μ 47 7 2) (vc := True) rfl (by decide +kernel) rfl trivial ?_
  rw [show (pm_set μ 47 7 2).1 47 7 = 2 from by rw [pm_set_hit] <;> omega]
  refine pm_if_le (off := 5) 79 (by decide +kernel) (by decide) (fun h9 => absurd h9 (by decide)) (fun _ => ?_)
  refine pm_bl [(.iconst 0, 1, 0, 0, 0)] (pc1 := 78) (lo1 := [some (.ref 47), some (.int x1), some (.int x2), some (.int x3), some (.int x4), some (.int x5), none]) (st1 := [.int 0]) (μ1 := pm_set μ 47 7 2) (vc := True) rfl (by decide +kernel) rfl trivial ?_
  exact pm_iret (ty := .int) rfl rfl (by decide) (by decide) (by decide +kernel) (⟨rfl, rfl⟩)
set_option maxHeartbeats 4000000 in
set_option maxRecDepth 100000 in
theorem l_X10_addWalk {g : Nat → Int32} {n : Nat} (P : Option Value → pm_Mm → Prop) (x1 x2 x3 x4 x5 x6 : Int32) (μ : pm_Mm) (hM : μ.1 48 = g) (hG : lr_G g) (hn : lr_n g 116 = n + 1) (hP : P (some (.int (lr_svd g (nI n)))) μ) : pm_V mi_X10_addWalk (P, pm_NX, fun _ _ _ => True) 0 0 162 [some (.ref 47), some (.int x1), some (.int x2), some (.int x3), some (.int x4), some (.int x5), some (.int x6)] [] μ := by
  have hm1 := lr_mh hG; have hm2 := lr_mw hG; have hm3 := lr_mp hG; have hm4 := lr_mr hG; have hm5 := lr_ma hG; have hm6 := lr_ml hG
  refine pm_bl [(.aload_n 0, 1, 0, 0, 0), (.aload_n 0, 1, 0, 0, 0), (.getfield 7, 3, 10, 0, 0), (.bipush 116, 2, 0, 0, 116), (.iaload, 1, 0, 0, 0)] (pc1 := 170) (lo1 := [some (.ref 47), some (.int x1), some (.int x2), some (.int x3), some (.int x4), some (.int x5), some (.int x6)]) (st1 := [.int (μ.1 48 (116 : Int32).toNatClampNeg), .ref 47]) (μ1 := μ) (vc := vp_in 116 620 ∧ True) rfl (by decide +kernel) rfl ⟨(by unfold vp_in; decide), trivial⟩ ?_
  rw [show (116 : Int32).toNatClampNeg = 116 from by decide, hM, lr_gw hG]
  refine pm_bl [(.iconst 1, 1, 0, 0, 1), (.isub, 1, 0, 0, 0)] (pc1 := 172) (lo1 := [some (.ref 47), some (.int x1), some (.int x2), some (.int x3), some (.int x4), some (.int x5), some (.int x6)]) (st1 := [.int ((nI (lr_n g 116)) - 1), .ref 47]) (μ1 := μ) (vc := True) rfl (by decide +kernel) rfl trivial ?_
  refine pm_callV2 mi_X10_served (ix := 81) (b := 47) (ci := 10) (kc2 := 0) (ks2 := 0) (As := [.int ((nI (lr_n g 116)) - 1)]) (rest := []) (c_X10_served (nI (lr_n g 116) - 1) μ hM hG) cal_X10_served lk10_81 (by decide +kernel) rfl (by decide +kernel) rfl rfl rfl rfl (Nat.le_of_ble_eq_true rfl) (by decide) (by decide) (fun _ _ h9 => h9.elim) ?_
  rintro _ _ ⟨rfl, h9⟩; rw [h9]; clear h9
  rw [show nI (lr_n g 116) - 1 = nI n from by rw [hn, nI_pred]]
  show pm_V _ _ _ _ 175 _ [.int (lr_svd g (nI n))] _
  exact pm_iret (ty := .int) rfl rfl (by decide) (by decide) (by decide +kernel) hP
set_option maxHeartbeats 4000000 in
set_option maxRecDepth 100000 in
theorem c_X10_addWalk {g : Nat → Int32} {c : Nat} {x1 x2 x3 x4 x5 : Int32} (μ : pm_Mm) (hM : μ.1 48 = g) (hG : lr_G g) (hp : μ.1 47 5 = nI c) (hc8 : c ≤ 8) (hw : lr_wok x1 x2 x3 x4 x5 = true) (hn : lr_n g 116 < 10) (hG2 : lr_G (lr_gX8_add g x1 x2 x3 x4 x5)) : pm_CT mi_X10_addWalk [.ref 47, .int x1, .int x2, .int x3, .int x4, .int x5] μ (fun v μ2 => v = some (.int (lr_svd (lr_gX8_add g x1 x2 x3 x4 x5) (nI (lr_n g 116)))) ∧ lr_fm (lr_chg (pm_set μ 47 7 0) 48) μ2 ∧ μ2.1 48 = lr_gX8_add g x1 x2 x3 x4 x5) pm_NX := by
  refine pm_CT_of (lo := [some (.ref 47), some (.int x1), some (.int x2), some (.int x3), some (.int x4), some (.int x5), none]) (by decide +kernel) rfl rfl (by intro v hv; simp at hv; rcases hv with rfl | rfl | rfl | rfl | rfl | rfl <;> rfl) (Nat.le_of_ble_eq_true rfl) rfl ?_
  have hm1 := lr_mh hG; have hm2 := lr_mw hG; have hm3 := lr_mp hG; have hm4 := lr_mr hG; have hm5 := lr_ma hG; have hm6 := lr_ml hG
  refine pm_bl [(.aload_n 0, 1, 0, 0, 0), (.iload_n 1, 1, 1, 0, 0), (.iconst 0, 1, 0, 0, 0), (.iconst 4, 1, 0, 0, 4)] (pc1 := 4) (lo1 := [some (.ref 47), some (.int x1), some (.int x2), some (.int x3), some (.int x4), some (.int x5), none]) (st1 := [.int 4, .int 0, .int x1, .ref 47]) (μ1 := μ) (vc := True) rfl (by decide +kernel) rfl trivial ?_
  refine pm_callS2 mi_X10_in (ix := 45) (kc2 := 0) (ks2 := 0) (As := [.int x1, .int 0, .int 4]) (rest := [.ref 47]) (c_X10_in x1 0 4 μ) cal_X10_in lk10_45 (by decide +kernel) rfl (by decide +kernel) rfl rfl (Nat.le_of_ble_eq_true rfl) (by decide) (by decide) (fun _ _ h9 => h9.elim) ?_
  rintro _ _ ⟨rfl, h9⟩; rw [h9]; clear h9
  show pm_V _ _ _ _ 7 _ [.int (lr_b (lr_in x1 0 4)), .ref 47] _
  refine pm_ifb_eq (off := 39) 46 (by decide +kernel) (by decide) (fun (h9 : (lr_in x1 0 4) = false) => absurd hw (by simp [lr_wok, *])) (fun (h7 : (lr_in x1 0 4) = true) => ?_)
  refine pm_bl [(.iload_n 2, 1, 2, 0, 0), (.iconst 0, 1, 0, 0, 0), (.iconst 2, 1, 0, 0, 2)] (pc1 := 13) (lo1 := [some (.ref 47), some (.int x1), some (.int x2), some (.int x3), some (.int x4), some (.int x5), none]) (st1 := [.int 2, .int 0, .int x2, .ref 47]) (μ1 := μ) (vc := True) rfl (by decide +kernel) rfl trivial ?_
  refine pm_callS2 mi_X10_in (ix := 45) (kc2 := 0) (ks2 := 0) (As := [.int x2, .int 0, .int 2]) (rest := [.ref 47]) (c_X10_in x2 0 2 μ) cal_X10_in lk10_45 (by decide +kernel) rfl (by decide +kernel) rfl rfl (Nat.le_of_ble_eq_true rfl) (by decide) (by decide) (fun _ _ h9 => h9.elim) ?_
  rintro _ _ ⟨rfl, h9⟩; rw [h9]; clear h9
  show pm_V _ _ _ _ 16 _ [.int (lr_b (lr_in x2 0 2)), .ref 47] _
  refine pm_ifb_eq (off := 30) 46 (by decide +kernel) (by decide) (fun (h9 : (lr_in x2 0 2) = false) => absurd hw (by simp [lr_wok, *])) (fun (h16 : (lr_in x2 0 2) = true) => ?_)
  refine pm_bl [(.iload_n 3, 1, 3, 0, 0), (.iconst 0, 1, 0, 0, 0), (.iconst 1, 1, 0, 0, 1)] (pc1 := 22) (lo1 := [some (.ref 47), some (.int x1), some (.int x2), some (.int x3), some (.int x4), some (.int x5), none]) (st1 := [.int 1, .int 0, .int x3, .ref 47]) (μ1 := μ) (vc := True) rfl (by decide +kernel) rfl trivial ?_
  refine pm_callS2 mi_X10_in (ix := 45) (kc2 := 0) (ks2 := 0) (As := [.int x3, .int 0, .int 1]) (rest := [.ref 47]) (c_X10_in x3 0 1 μ) cal_X10_in lk10_45 (by decide +kernel) rfl (by decide +kernel) rfl rfl (Nat.le_of_ble_eq_true rfl) (by decide) (by decide) (fun _ _ h9 => h9.elim) ?_
  rintro _ _ ⟨rfl, h9⟩; rw [h9]; clear h9
  show pm_V _ _ _ _ 25 _ [.int (lr_b (lr_in x3 0 1)), .ref 47] _
  refine pm_ifb_eq (off := 21) 46 (by decide +kernel) (by decide) (fun (h9 : (lr_in x3 0 1) = false) => absurd hw (by simp [lr_wok, *])) (fun (h25 : (lr_in x3 0 1) = true) => ?_)
  refine pm_bl [(.iload 4, 2, 4, 0, 0), (.iconst 1, 1, 0, 0, 1), (.iload 5, 2, 5, 0, 0)] (pc1 := 33) (lo1 := [some (.ref 47), some (.int x1), some (.int x2), some (.int x3), some (.int x4), some (.int x5), none]) (st1 := [.int x5, .int 1, .int x4, .ref 47]) (μ1 := μ) (vc := True) rfl (by decide +kernel) rfl trivial ?_
  refine pm_callS2 mi_X10_in (ix := 45) (kc2 := 0) (ks2 := 0) (As := [.int x4, .int 1, .int x5]) (rest := [.ref 47]) (c_X10_in x4 1 x5 μ) cal_X10_in lk10_45 (by decide +kernel) rfl (by decide +kernel) rfl rfl (Nat.le_of_ble_eq_true rfl) (by decide) (by decide) (fun _ _ h9 => h9.elim) ?_
  rintro _ _ ⟨rfl, h9⟩; rw [h9]; clear h9
  show pm_V _ _ _ _ 36 _ [.int (lr_b (lr_in x4 1 x5)), .ref 47] _
  refine pm_ifb_eq (off := 10) 46 (by decide +kernel) (by decide) (fun (h9 : (lr_in x4 1 x5) = false) => absurd hw (by simp [lr_wok, *])) (fun (h36 : (lr_in x4 1 x5) = true) => ?_)
  refine pm_bl [(.iload 5, 2, 5, 0, 0), (.bipush 99, 2, 0, 0, 99)] (pc1 := 43) (lo1 := [some (.ref 47), some (.int x1), some (.int x2), some (.int x3), some (.int x4), some (.int x5), none]) (st1 := [.int 99, .int x5, .ref 47]) (μ1 := μ) (vc := True) rfl (by decide +kernel) rfl trivial ?_
  refine pm_icmp_le (off := 7) 50 (by decide +kernel) (by decide) (fun (h43 : x5 ≤ 99) => ?_) (fun (h9 : ¬ (x5 ≤ 99)) => absurd hw (by simp [lr_wok, *]))
  refine pm_bl [(.aload_n 0, 1, 0, 0, 0), (.getfield 7, 3, 10, 0, 0), (.bipush 116, 2, 0, 0, 116), (.iaload, 1, 0, 0, 0)] (pc1 := 57) (lo1 := [some (.ref 47), some (.int x1), some (.int x2), some (.int x3), some (.int x4), some (.int x5), none]) (st1 := [.int (μ.1 48 (116 : Int32).toNatClampNeg), .ref 47]) (μ1 := μ) (vc := vp_in 116 620 ∧ True) rfl (by decide +kernel) rfl ⟨(by unfold vp_in; decide), trivial⟩ ?_
  rw [show (116 : Int32).toNatClampNeg = 116 from by decide, hM, lr_gw hG]
  refine pm_bl [(.bipush 10, 2, 0, 0, 10)] (pc1 := 59) (lo1 := [some (.ref 47), some (.int x1), some (.int x2), some (.int x3), some (.int x4), some (.int x5), none]) (st1 := [.int 10, .int (nI (lr_n g 116)), .ref 47]) (μ1 := μ) (vc := True) rfl (by decide +kernel) rfl trivial ?_
  refine pm_icmp_ne (off := 7) 66 (by decide +kernel) (by decide) (fun (h59 : ¬ (nI (lr_n g 116)) = 10) => ?_) (fun (h9 : (nI (lr_n g 116)) = 10) => absurd ((nI_eq (a := lr_n g 116) (b := 10) (by omega) (by omega)).mp h9) (by omega))
  refine pm_bl [(.iconst 0, 1, 0, 0, 0), (.putfield 35, 3, 10, 7, 0), (.aload_n 0, 1, 0, 0, 0), (.getfield 35, 3, 10, 7, 0)] (pc1 := 74) (lo1 := [some (.ref 47), some (.int x1), some (.int x2), some (.int x3), some (.int x4), some (.int x5), none]) (st1 := [.int ((pm_set μ 47 7 0).1 47 7)]) (μ1 := pm_set μ 47 7 0) (vc := True) rfl (by decide +kernel) rfl trivial ?_
  rw [show (pm_set μ 47 7 0).1 47 7 = 0 from by rw [pm_set_hit] <;> omega]
  refine pm_if_le (off := 5) 79 (by decide +kernel) (by decide) (fun _ => ?_) (fun h9 => absurd h9 (by decide))
  refine pm_bl [(.aload_n 0, 1, 0, 0, 0), (.aload_n 0, 1, 0, 0, 0), (.getfield 7, 3, 10, 0, 0)] (pc1 := 84) (lo1 := [some (.ref 47), some (.int x1), some (.int x2), some (.int x3), some (.int x4), some (.int x5), none]) (st1 := [.ref 48, .ref 47]) (μ1 := pm_set μ 47 7 0) (vc := True) rfl (by decide +kernel) rfl trivial ?_
  refine pm_callV2 mi_X10_changes (ix := 66) (b := 47) (ci := 10) (kc2 := 0) (ks2 := 0) (As := [.ref 48]) (rest := []) (c_X10_changes_48 (c := c) (pm_set μ 47 7 0) (by first | exact hp | (rw [pm_set_miss (Or.inr (by decide))]; exact hp)) hc8) cal_X10_changes lk10_66 (by decide +kernel) rfl (by decide +kernel) rfl rfl rfl rfl (Nat.le_of_ble_eq_true rfl) (by decide) (by decide) (fun _ _ h9 => h9.elim) ?_
  rintro _ μ1 ⟨rfl, hq⟩
  have hM1 : μ1.1 48 = g := by rw [hq, lr_chg_off (by decide) (by decide)]; first | exact hM | (rw [pm_set_off (by decide)]; exact hM)
  show pm_V _ _ _ _ 87 _ [] _
  refine pm_bl [(.bipush 117, 2, 0, 0, 117), (.iconst 5, 1, 0, 0, 5), (.aload_n 0, 1, 0, 0, 0), (.getfield 7, 3, 10, 0, 0), (.bipush 116, 2, 0, 0, 116), (.iaload, 1, 0, 0, 0)] (pc1 := 97) (lo1 := [some (.ref 47), some (.int x1), some (.int x2), some (.int x3), some (.int x4), some (.int x5), none]) (st1 := [.int (μ1.1 48 (116 : Int32).toNatClampNeg), .int 5, .int 117]) (μ1 := μ1) (vc := vp_in 116 620 ∧ True) rfl (by decide +kernel) rfl ⟨(by unfold vp_in; decide), trivial⟩ ?_
  rw [show (116 : Int32).toNatClampNeg = 116 from by decide, hM1, lr_gw hG]
  refine pm_bl [(.imul, 1, 0, 0, 0), (.iadd, 1, 0, 0, 0), (.istore 6, 2, 6, 0, 0), (.aload_n 0, 1, 0, 0, 0), (.getfield 7, 3, 10, 0, 0), (.iload 6, 2, 6, 0, 0), (.iload_n 1, 1, 1, 0, 0)] (pc1 := 108) (lo1 := [some (.ref 47), some (.int x1), some (.int x2), some (.int x3), some (.int x4), some (.int x5), some (.int (117 + (5 * (nI (lr_n g 116)))))]) (st1 := [.int x1, .int (117 + (5 * (nI (lr_n g 116)))), .ref 48]) (μ1 := μ1) (vc := True) rfl (by decide +kernel) rfl trivial ?_
  rw [(show (117 + (5 * (nI (lr_n g 116))) : Int32) = nI (117 + (5 * ((lr_n g 116)))) from by simp only [nI, Int32.ofNat_add, Int32.ofNat_mul]; rfl).trans (congrArg nI (show 117 + (5 * ((lr_n g 116))) = 117 + 5 * (lr_n g 116) from by omega))]
  refine pm_bl [(.iastore, 1, 0, 0, 0), (.aload_n 0, 1, 0, 0, 0), (.getfield 7, 3, 10, 0, 0), (.iload 6, 2, 6, 0, 0), (.iconst 1, 1, 0, 0, 1), (.iadd, 1, 0, 0, 0), (.iload_n 2, 1, 2, 0, 0)] (pc1 := 118) (lo1 := [some (.ref 47), some (.int x1), some (.int x2), some (.int x3), some (.int x4), some (.int x5), some (.int (nI (117 + 5 * (lr_n g 116))))]) (st1 := [.int x2, .int ((nI (117 + 5 * (lr_n g 116))) + 1), .ref 48]) (μ1 := pm_set μ1 48 ((nI (117 + 5 * (lr_n g 116))).toNatClampNeg) x1) (vc := vp_in (nI (117 + 5 * (lr_n g 116))) 620 ∧ True) rfl (by decide +kernel) rfl ⟨(vp_in_nI (by omega) (by omega)), trivial⟩ ?_
  try rw [nI_clamp (n := (117 + 5 * (lr_n g 116))) (by omega)]
  rw [(show ((nI (117 + 5 * (lr_n g 116))) + 1 : Int32) = nI (((117 + 5 * (lr_n g 116))) + 1) from by simp only [nI, Int32.ofNat_add, Int32.ofNat_mul]; rfl).trans (congrArg nI (show ((117 + 5 * (lr_n g 116))) + 1 = 118 + 5 * (lr_n g 116) from by omega))]
  refine pm_bl [(.iastore, 1, 0, 0, 0), (.aload_n 0, 1, 0, 0, 0), (.getfield 7, 3, 10, 0, 0), (.iload 6, 2, 6, 0, 0), (.iconst 2, 1, 0, 0, 2), (.iadd, 1, 0, 0, 0), (.iload_n 3, 1, 3, 0, 0)] (pc1 := 128) (lo1 := [some (.ref 47), some (.int x1), some (.int x2), some (.int x3), some (.int x4), some (.int x5), some (.int (nI (117 + 5 * (lr_n g 116))))]) (st1 := [.int x3, .int ((nI (117 + 5 * (lr_n g 116))) + 2), .ref 48]) (μ1 := pm_set (pm_set μ1 48 (117 + 5 * (lr_n g 116)) x1) 48 ((nI (118 + 5 * (lr_n g 116))).toNatClampNeg) x2) (vc := vp_in (nI (118 + 5 * (lr_n g 116))) 620 ∧ True) rfl (by decide +kernel) rfl ⟨(vp_in_nI (by omega) (by omega)), trivial⟩ ?_
  try rw [nI_clamp (n := (118 + 5 * (lr_n g 116))) (by omega)]
  rw [(show ((nI (117 + 5 * (lr_n g 116))) + 2 : Int32) = nI (((117 + 5 * (lr_n g 116))) + 2) from by simp only [nI, Int32.ofNat_add, Int32.ofNat_mul]; rfl).trans (congrArg nI (show ((117 + 5 * (lr_n g 116))) + 2 = 119 + 5 * (lr_n g 116) from by omega))]
  refine pm_bl [(.iastore, 1, 0, 0, 0), (.aload_n 0, 1, 0, 0, 0), (.getfield 7, 3, 10, 0, 0), (.iload 6, 2, 6, 0, 0), (.iconst 3, 1, 0, 0, 3), (.iadd, 1, 0, 0, 0), (.iload 4, 2, 4, 0, 0)] (pc1 := 139) (lo1 := [some (.ref 47), some (.int x1), some (.int x2), some (.int x3), some (.int x4), some (.int x5), some (.int (nI (117 + 5 * (lr_n g 116))))]) (st1 := [.int x4, .int ((nI (117 + 5 * (lr_n g 116))) + 3), .ref 48]) (μ1 := pm_set (pm_set (pm_set μ1 48 (117 + 5 * (lr_n g 116)) x1) 48 (118 + 5 * (lr_n g 116)) x2) 48 ((nI (119 + 5 * (lr_n g 116))).toNatClampNeg) x3) (vc := vp_in (nI (119 + 5 * (lr_n g 116))) 620 ∧ True) rfl (by decide +kernel) rfl ⟨(vp_in_nI (by omega) (by omega)), trivial⟩ ?_
  try rw [nI_clamp (n := (119 + 5 * (lr_n g 116))) (by omega)]
  rw [(show ((nI (117 + 5 * (lr_n g 116))) + 3 : Int32) = nI (((117 + 5 * (lr_n g 116))) + 3) from by simp only [nI, Int32.ofNat_add, Int32.ofNat_mul]; rfl).trans (congrArg nI (show ((117 + 5 * (lr_n g 116))) + 3 = 120 + 5 * (lr_n g 116) from by omega))]
  refine pm_bl [(.iastore, 1, 0, 0, 0), (.aload_n 0, 1, 0, 0, 0), (.getfield 7, 3, 10, 0, 0), (.iload 6, 2, 6, 0, 0), (.iconst 4, 1, 0, 0, 4), (.iadd, 1, 0, 0, 0), (.iload 5, 2, 5, 0, 0)] (pc1 := 150) (lo1 := [some (.ref 47), some (.int x1), some (.int x2), some (.int x3), some (.int x4), some (.int x5), some (.int (nI (117 + 5 * (lr_n g 116))))]) (st1 := [.int x5, .int ((nI (117 + 5 * (lr_n g 116))) + 4), .ref 48]) (μ1 := pm_set (pm_set (pm_set (pm_set μ1 48 (117 + 5 * (lr_n g 116)) x1) 48 (118 + 5 * (lr_n g 116)) x2) 48 (119 + 5 * (lr_n g 116)) x3) 48 ((nI (120 + 5 * (lr_n g 116))).toNatClampNeg) x4) (vc := vp_in (nI (120 + 5 * (lr_n g 116))) 620 ∧ True) rfl (by decide +kernel) rfl ⟨(vp_in_nI (by omega) (by omega)), trivial⟩ ?_
  try rw [nI_clamp (n := (120 + 5 * (lr_n g 116))) (by omega)]
  rw [(show ((nI (117 + 5 * (lr_n g 116))) + 4 : Int32) = nI (((117 + 5 * (lr_n g 116))) + 4) from by simp only [nI, Int32.ofNat_add, Int32.ofNat_mul]; rfl).trans (congrArg nI (show ((117 + 5 * (lr_n g 116))) + 4 = 121 + 5 * (lr_n g 116) from by omega))]
  refine pm_bl [(.iastore, 1, 0, 0, 0), (.aload_n 0, 1, 0, 0, 0), (.getfield 7, 3, 10, 0, 0), (.bipush 116, 2, 0, 0, 116), (.dup2, 1, 0, 0, 0), (.iaload, 1, 0, 0, 0)] (pc1 := 159) (lo1 := [some (.ref 47), some (.int x1), some (.int x2), some (.int x3), some (.int x4), some (.int x5), some (.int (nI (117 + 5 * (lr_n g 116))))]) (st1 := [.int ((pm_set (pm_set (pm_set (pm_set (pm_set μ1 48 (117 + 5 * (lr_n g 116)) x1) 48 (118 + 5 * (lr_n g 116)) x2) 48 (119 + 5 * (lr_n g 116)) x3) 48 (120 + 5 * (lr_n g 116)) x4) 48 ((nI (121 + 5 * (lr_n g 116))).toNatClampNeg) x5).1 48 (116 : Int32).toNatClampNeg), .int 116, .ref 48]) (μ1 := pm_set (pm_set (pm_set (pm_set (pm_set μ1 48 (117 + 5 * (lr_n g 116)) x1) 48 (118 + 5 * (lr_n g 116)) x2) 48 (119 + 5 * (lr_n g 116)) x3) 48 (120 + 5 * (lr_n g 116)) x4) 48 ((nI (121 + 5 * (lr_n g 116))).toNatClampNeg) x5) (vc := vp_in (nI (121 + 5 * (lr_n g 116))) 620 ∧ vp_in 116 620 ∧ True) rfl (by decide +kernel) rfl ⟨(vp_in_nI (by omega) (by omega)), (by unfold vp_in; decide), trivial⟩ ?_
  try rw [show (116 : Int32).toNatClampNeg = 116 from by decide]
  try rw [nI_clamp (n := (121 + 5 * (lr_n g 116))) (by omega)]
  refine pm_bl [(.iconst 1, 1, 0, 0, 1), (.iadd, 1, 0, 0, 0), (.iastore, 1, 0, 0, 0)] (pc1 := 162) (lo1 := [some (.ref 47), some (.int x1), some (.int x2), some (.int x3), some (.int x4), some (.int x5), some (.int (nI (117 + 5 * (lr_n g 116))))]) (st1 := []) (μ1 := pm_set (pm_set (pm_set (pm_set (pm_set (pm_set μ1 48 (117 + 5 * (lr_n g 116)) x1) 48 (118 + 5 * (lr_n g 116)) x2) 48 (119 + 5 * (lr_n g 116)) x3) 48 (120 + 5 * (lr_n g 116)) x4) 48 (121 + 5 * (lr_n g 116)) x5) 48 ((116 : Int32).toNatClampNeg) (((pm_set (pm_set (pm_set (pm_set (pm_set μ1 48 (117 + 5 * (lr_n g 116)) x1) 48 (118 + 5 * (lr_n g 116)) x2) 48 (119 + 5 * (lr_n g 116)) x3) 48 (120 + 5 * (lr_n g 116)) x4) 48 (121 + 5 * (lr_n g 116)) x5).1 48 116) + 1)) (vc := vp_in 116 620 ∧ True) rfl (by decide +kernel) rfl ⟨(by unfold vp_in; decide), trivial⟩ ?_
  try rw [show (116 : Int32).toNatClampNeg = 116 from by decide]
  refine l_X10_addWalk (g := lr_gX8_add g x1 x2 x3 x4 x5) (n := lr_n g 116) _ x1 x2 x3 x4 x5 _ _ ?_ hG2 ?_ ⟨rfl, ?_, ?_⟩
  · rw [pm_set_miss, pm_set_miss, pm_set_miss, pm_set_miss, pm_set_miss, hM1, lr_gw hG, nI_1] <;> first | (right; omega) | (simp only [pm_set_at]; rw [hM1]; rfl)
  · show (lr_gX8_add g x1 x2 x3 x4 x5 116).toNatClampNeg = _; rw [show lr_gX8_add g x1 x2 x3 x4 x5 116 = nI (lr_n g 116 + 1) from by simp [lr_gX8_add, upd], nI_clamp (by omega)]
  · rw [← hq]; exact lr_fm.set (lr_fm.set (lr_fm.set (lr_fm.set (lr_fm.set (lr_fm.set lr_fm.rf)))))
  · rw [pm_set_miss, pm_set_miss, pm_set_miss, pm_set_miss, pm_set_miss, hM1, lr_gw hG, nI_1] <;> first | (right; omega) | (simp only [pm_set_at]; rw [hM1]; rfl)
def lr_hex (g : Nat → Int32) (st nu : Int32) : Bool := lr_any (fun h => decide (g (3 + 2 * h) = st) && decide (g (4 + 2 * h) = nu)) (lr_n g 2) 0
def lr_hok (g : Nat → Int32) (st nu : Int32) : Bool := (lr_in st 0 4 && lr_in nu 1 99) && !lr_hex g st nu
set_option maxHeartbeats 4000000 in
set_option maxRecDepth 100000 in
theorem l_X10_addHouse {g : Nat → Int32} (P : Option Value → pm_Mm → Prop) (st nu : Int32) (B : Bool) (μ : pm_Mm) (hM : μ.1 48 = g) (hG : lr_G g) (K : pm_V mi_X10_addHouse (P, pm_NX, fun _ _ _ => True) 0 0 75 [some (.ref 47), some (.int st), some (.int nu), some (.int (lr_b B)), none] [] μ) : ∀ n k : Nat, k + n = lr_n g 2 → ∀ b : Bool, B = (b && !lr_any (fun h => decide (g (3 + 2 * h) = st) && decide (g (4 + 2 * h) = nu)) n k) → pm_V mi_X10_addHouse (P, pm_NX, fun _ _ _ => True) 0 0 28 [some (.ref 47), some (.int st), some (.int nu), some (.int (lr_b b)), some (.int (nI k))] [] μ := by
  have hm1 := lr_mh hG; have hm2 := lr_mw hG; have hm3 := lr_mp hG; have hm4 := lr_mr hG; have hm5 := lr_ma hG; have hm6 := lr_ml hG
  intro n
  induction n with
  | zero =>
    intro k hk b he
    refine pm_bl [(.iload 4, 2, 4, 0, 0), (.aload_n 0, 1, 0, 0, 0), (.getfield 7, 3, 10, 0, 0), (.iconst 2, 1, 0, 0, 2), (.iaload, 1, 0, 0, 0)] (pc1 := 36) (lo1 := [some (.ref 47), some (.int st), some (.int nu), some (.int (lr_b b)), some (.int (nI k))]) (st1 := [.int (μ.1 48 (2 : Int32).toNatClampNeg), .int (nI k)]) (μ1 := μ) (vc := vp_in 2 620 ∧ True) rfl (by decide +kernel) rfl ⟨(by unfold vp_in; decide), trivial⟩ ?_
    rw [show (2 : Int32).toNatClampNeg = 2 from by decide, hM, lr_gh hG]
    refine pm_icmp_ge (off := 39) 75 (by decide +kernel) (by decide) (fun (h36 : (nI (lr_n g 2)) ≤ (nI k)) => ?_) (fun (h9 : ¬ ((nI (lr_n g 2)) ≤ (nI k))) => absurd (nI_le (by omega) (by omega)) h9)
    rw [lr_any, Bool.not_false, Bool.and_true] at he
    subst he
    exact pm_V.drop (lo' := [some (.ref 47), some (.int st), some (.int nu), some (.int (lr_b B)), none]) ⟨rfl, rfl, rfl, rfl, trivial⟩ K
  | succ n ih =>
    intro k hk b he
    refine pm_bl [(.iload 4, 2, 4, 0, 0), (.aload_n 0, 1, 0, 0, 0), (.getfield 7, 3, 10, 0, 0), (.iconst 2, 1, 0, 0, 2), (.iaload, 1, 0, 0, 0)] (pc1 := 36) (lo1 := [some (.ref 47), some (.int st), some (.int nu), some (.int (lr_b b)), some (.int (nI k))]) (st1 := [.int (μ.1 48 (2 : Int32).toNatClampNeg), .int (nI k)]) (μ1 := μ) (vc := vp_in 2 620 ∧ True) rfl (by decide +kernel) rfl ⟨(by unfold vp_in; decide), trivial⟩ ?_
    rw [show (2 : Int32).toNatClampNeg = 2 from by decide, hM, lr_gh hG]
    refine pm_icmp_ge (off := 39) 75 (by decide +kernel) (by decide) (fun (h9 : (nI (lr_n g 2)) ≤ (nI k)) => absurd h9 (nI_ge (by omega) (by omega))) (fun (h36 : ¬ ((nI (lr_n g 2)) ≤ (nI k))) => ?_)
    refine pm_bl [(.iload_n 3, 1, 3, 0, 0)] (pc1 := 40) (lo1 := [some (.ref 47), some (.int st), some (.int nu), some (.int (lr_b b)), some (.int (nI k))]) (st1 := [.int (lr_b b)]) (μ1 := μ) (vc := True) rfl (by decide +kernel) rfl trivial ?_
    refine pm_ifb_eq (off := 27) 67 (by decide +kernel) (by decide) (fun (h40 : b = false) => ?_) (fun (h40 : b = true) => ?_)
    · refine pm_bl [(.iconst 0, 1, 0, 0, 0), (.istore_n 3, 1, 3, 0, 0), (.iinc 4 1, 3, 4, 0, 1), (.goto (-44), 3, 28, 0, 0)] (pc1 := 28) (lo1 := [some (.ref 47), some (.int st), some (.int nu), some (.int 0), some (.int ((nI k) + 1))]) (st1 := []) (μ1 := μ) (vc := True) rfl (by decide +kernel) rfl trivial ?_
      rw [nI_1]; exact ih (k + 1) (by omega) false (by rw [he]; simp only [lr_any]; simp_all)
    · refine pm_bl [(.aload_n 0, 1, 0, 0, 0), (.iload 4, 2, 4, 0, 0)] (pc1 := 46) (lo1 := [some (.ref 47), some (.int st), some (.int nu), some (.int (lr_b b)), some (.int (nI k))]) (st1 := [.int (nI k), .ref 47]) (μ1 := μ) (vc := True) rfl (by decide +kernel) rfl trivial ?_
      refine pm_callV2 mi_X10_streetOf (ix := 60) (b := 47) (ci := 10) (kc2 := 0) (ks2 := 0) (As := [.int (nI k)]) (rest := []) (c_X10_streetOf (h := k) μ hM (by omega)) cal_X10_streetOf lk10_60 (by decide +kernel) rfl (by decide +kernel) rfl rfl rfl rfl (Nat.le_of_ble_eq_true rfl) (by decide) (by decide) (fun _ _ h9 => h9.elim) ?_
      rintro _ _ ⟨rfl, h9⟩; rw [h9]; clear h9
      show pm_V _ _ _ _ 49 _ [.int (g (3 + 2 * k))] _
      refine pm_bl [(.iload_n 1, 1, 1, 0, 0)] (pc1 := 50) (lo1 := [some (.ref 47), some (.int st), some (.int nu), some (.int (lr_b b)), some (.int (nI k))]) (st1 := [.int st, .int (g (3 + 2 * k))]) (μ1 := μ) (vc := True) rfl (by decide +kernel) rfl trivial ?_
      refine pm_icmp_ne (off := 13) 63 (by decide +kernel) (by decide) (fun (h50 : ¬ (g (3 + 2 * k)) = st) => ?_) (fun (h50 : (g (3 + 2 * k)) = st) => ?_)
      · refine pm_bl [(.iconst 1, 1, 0, 0, 1), (.goto 4, 3, 68, 0, 0), (.istore_n 3, 1, 3, 0, 0), (.iinc 4 1, 3, 4, 0, 1), (.goto (-44), 3, 28, 0, 0)] (pc1 := 28) (lo1 := [some (.ref 47), some (.int st), some (.int nu), some (.int 1), some (.int ((nI k) + 1))]) (st1 := []) (μ1 := μ) (vc := True) rfl (by decide +kernel) rfl trivial ?_
        rw [nI_1]; exact ih (k + 1) (by omega) true (by rw [he]; simp only [lr_any]; simp_all)
      · refine pm_bl [(.aload_n 0, 1, 0, 0, 0), (.iload 4, 2, 4, 0, 0)] (pc1 := 56) (lo1 := [some (.ref 47), some (.int st), some (.int nu), some (.int (lr_b b)), some (.int (nI k))]) (st1 := [.int (nI k), .ref 47]) (μ1 := μ) (vc := True) rfl (by decide +kernel) rfl trivial ?_
        refine pm_callV2 mi_X10_numberOf (ix := 63) (b := 47) (ci := 10) (kc2 := 0) (ks2 := 0) (As := [.int (nI k)]) (rest := []) (c_X10_numberOf (h := k) μ hM (by omega)) cal_X10_numberOf lk10_63 (by decide +kernel) rfl (by decide +kernel) rfl rfl rfl rfl (Nat.le_of_ble_eq_true rfl) (by decide) (by decide) (fun _ _ h9 => h9.elim) ?_
        rintro _ _ ⟨rfl, h9⟩; rw [h9]; clear h9
        show pm_V _ _ _ _ 59 _ [.int (g (4 + 2 * k))] _
        refine pm_bl [(.iload_n 2, 1, 2, 0, 0)] (pc1 := 60) (lo1 := [some (.ref 47), some (.int st), some (.int nu), some (.int (lr_b b)), some (.int (nI k))]) (st1 := [.int nu, .int (g (4 + 2 * k))]) (μ1 := μ) (vc := True) rfl (by decide +kernel) rfl trivial ?_
        refine pm_icmp_eq (off := 7) 67 (by decide +kernel) (by decide) (fun (h60 : (g (4 + 2 * k)) = nu) => ?_) (fun (h60 : ¬ ((g (4 + 2 * k)) = nu)) => ?_)
        · refine pm_bl [(.iconst 0, 1, 0, 0, 0), (.istore_n 3, 1, 3, 0, 0), (.iinc 4 1, 3, 4, 0, 1), (.goto (-44), 3, 28, 0, 0)] (pc1 := 28) (lo1 := [some (.ref 47), some (.int st), some (.int nu), some (.int 0), some (.int ((nI k) + 1))]) (st1 := []) (μ1 := μ) (vc := True) rfl (by decide +kernel) rfl trivial ?_
          rw [nI_1]; exact ih (k + 1) (by omega) false (by rw [he]; simp only [lr_any]; simp_all)
        · refine pm_bl [(.iconst 1, 1, 0, 0, 1), (.goto 4, 3, 68, 0, 0), (.istore_n 3, 1, 3, 0, 0), (.iinc 4 1, 3, 4, 0, 1), (.goto (-44), 3, 28, 0, 0)] (pc1 := 28) (lo1 := [some (.ref 47), some (.int st), some (.int nu), some (.int 1), some (.int ((nI k) + 1))]) (st1 := []) (μ1 := μ) (vc := True) rfl (by decide +kernel) rfl trivial ?_
          rw [nI_1]; exact ih (k + 1) (by omega) true (by rw [he]; simp only [lr_any]; simp_all)
set_option maxHeartbeats 4000000 in
set_option maxRecDepth 100000 in
theorem c_X10_addHouse_no1 {g : Nat → Int32} {c : Nat} {st nu : Int32} (μ : pm_Mm) (hM : μ.1 48 = g) (hG : lr_G g) (ho : lr_hok g st nu = false) : pm_CT mi_X10_addHouse [.ref 47, .int st, .int nu] μ (fun v μ2 => v = some (.int 0) ∧ μ2 = pm_set μ 47 7 1) pm_NX := by
  refine pm_CT_of (lo := [some (.ref 47), some (.int st), some (.int nu), none, none]) (by decide +kernel) rfl rfl (by intro v hv; simp at hv; rcases hv with rfl | rfl | rfl <;> rfl) (Nat.le_of_ble_eq_true rfl) rfl ?_
  have hm1 := lr_mh hG; have hm2 := lr_mw hG; have hm3 := lr_mp hG; have hm4 := lr_mr hG; have hm5 := lr_ma hG; have hm6 := lr_ml hG
  have K : pm_V mi_X10_addHouse ((fun v μ2 => v = some (.int 0) ∧ μ2 = pm_set μ 47 7 1), pm_NX, fun _ _ _ => True) 0 0 75 [some (.ref 47), some (.int st), some (.int nu), some (.int (lr_b (lr_hok g st nu))), none] [] μ := by
    rw [ho]
    refine pm_bl [(.aload_n 0, 1, 0, 0, 0), (.iload_n 3, 1, 3, 0, 0)] (pc1 := 77) (lo1 := [some (.ref 47), some (.int st), some (.int nu), some (.int 0), none]) (st1 := [.int 0, .ref 47]) (μ1 := μ) (vc := True) rfl (by decide +kernel) rfl trivial ?_
    refine pm_if_ne (off := 7) 84 (by decide +kernel) (by decide) (fun h9 => absurd h9 (by decide)) (fun _ => ?_)
    refine pm_bl [(.iconst 1, 1, 0, 0, 1), (.goto 19, 3, 100, 0, 0), (.putfield 35, 3, 10, 7, 0), (.aload_n 0, 1, 0, 0, 0), (.getfield 35, 3, 10, 7, 0)] (pc1 := 107) (lo1 := [some (.ref 47), some (.int st), some (.int nu), some (.int 0), none]) (st1 := [.int ((pm_set μ 47 7 1).1 47 7)]) (μ1 := pm_set μ 47 7 1) (vc := True) rfl (by decide +kernel) rfl trivial ?_
    rw [show (pm_set μ 47 7 1).1 47 7 = 1 from by rw [pm_set_hit] <;> omega]
    refine pm_if_le (off := 5) 112 (by decide +kernel) (by decide) (fun h9 => absurd h9 (by decide)) (fun _ => ?_)
    refine pm_bl [(.iconst 0, 1, 0, 0, 0)] (pc1 := 111) (lo1 := [some (.ref 47), some (.int st), some (.int nu), some (.int 0), none]) (st1 := [.int 0]) (μ1 := pm_set μ 47 7 1) (vc := True) rfl (by decide +kernel) rfl trivial ?_
    exact pm_iret (ty := .int) rfl rfl (by decide) (by decide) (by decide +kernel) (⟨rfl, rfl⟩)
  refine pm_bl [(.iload_n 1, 1, 1, 0, 0), (.iconst 0, 1, 0, 0, 0), (.iconst 4, 1, 0, 0, 4)] (pc1 := 3) (lo1 := [some (.ref 47), some (.int st), some (.int nu), none, none]) (st1 := [.int 4, .int 0, .int st]) (μ1 := μ) (vc := True) rfl (by decide +kernel) rfl trivial ?_
  refine pm_callS2 mi_X10_in (ix := 45) (kc2 := 0) (ks2 := 0) (As := [.int st, .int 0, .int 4]) (rest := []) (c_X10_in st 0 4 μ) cal_X10_in lk10_45 (by decide +kernel) rfl (by decide +kernel) rfl rfl (Nat.le_of_ble_eq_true rfl) (by decide) (by decide) (fun _ _ h9 => h9.elim) ?_
  rintro _ _ ⟨rfl, h9⟩; rw [h9]; clear h9
  show pm_V _ _ _ _ 6 _ [.int (lr_b (lr_in st 0 4))] _
  refine pm_ifb_eq (off := 17) 23 (by decide +kernel) (by decide) (fun (h6 : (lr_in st 0 4) = false) => ?_) (fun (h6 : (lr_in st 0 4) = true) => ?_)
  · refine pm_bl [(.iconst 0, 1, 0, 0, 0), (.istore_n 3, 1, 3, 0, 0), (.iconst 0, 1, 0, 0, 0), (.istore 4, 2, 4, 0, 0)] (pc1 := 28) (lo1 := [some (.ref 47), some (.int st), some (.int nu), some (.int 0), some (.int 0)]) (st1 := []) (μ1 := μ) (vc := True) rfl (by decide +kernel) rfl trivial ?_
    exact l_X10_addHouse _ st nu (lr_hok g st nu) μ hM hG K (lr_n g 2) 0 (Nat.zero_add _) false (by simp_all [lr_hok, lr_hex])
  · refine pm_bl [(.iload_n 2, 1, 2, 0, 0), (.iconst 1, 1, 0, 0, 1), (.bipush 99, 2, 0, 0, 99)] (pc1 := 13) (lo1 := [some (.ref 47), some (.int st), some (.int nu), none, none]) (st1 := [.int 99, .int 1, .int nu]) (μ1 := μ) (vc := True) rfl (by decide +kernel) rfl trivial ?_
    refine pm_callS2 mi_X10_in (ix := 45) (kc2 := 0) (ks2 := 0) (As := [.int nu, .int 1, .int 99]) (rest := []) (c_X10_in nu 1 99 μ) cal_X10_in lk10_45 (by decide +kernel) rfl (by decide +kernel) rfl rfl (Nat.le_of_ble_eq_true rfl) (by decide) (by decide) (fun _ _ h9 => h9.elim) ?_
    rintro _ _ ⟨rfl, h9⟩; rw [h9]; clear h9
    show pm_V _ _ _ _ 16 _ [.int (lr_b (lr_in nu 1 99))] _
    refine pm_ifb_eq (off := 7) 23 (by decide +kernel) (by decide) (fun (h16 : (lr_in nu 1 99) = false) => ?_) (fun (h16 : (lr_in nu 1 99) = true) => ?_)
    · refine pm_bl [(.iconst 0, 1, 0, 0, 0), (.istore_n 3, 1, 3, 0, 0), (.iconst 0, 1, 0, 0, 0), (.istore 4, 2, 4, 0, 0)] (pc1 := 28) (lo1 := [some (.ref 47), some (.int st), some (.int nu), some (.int 0), some (.int 0)]) (st1 := []) (μ1 := μ) (vc := True) rfl (by decide +kernel) rfl trivial ?_
      exact l_X10_addHouse _ st nu (lr_hok g st nu) μ hM hG K (lr_n g 2) 0 (Nat.zero_add _) false (by simp_all [lr_hok, lr_hex])
    · refine pm_bl [(.iconst 1, 1, 0, 0, 1), (.goto 4, 3, 24, 0, 0), (.istore_n 3, 1, 3, 0, 0), (.iconst 0, 1, 0, 0, 0), (.istore 4, 2, 4, 0, 0)] (pc1 := 28) (lo1 := [some (.ref 47), some (.int st), some (.int nu), some (.int 1), some (.int 0)]) (st1 := []) (μ1 := μ) (vc := True) rfl (by decide +kernel) rfl trivial ?_
      exact l_X10_addHouse _ st nu (lr_hok g st nu) μ hM hG K (lr_n g 2) 0 (Nat.zero_add _) true (by simp_all [lr_hok, lr_hex])
set_option maxHeartbeats 4000000 in
set_option maxRecDepth 100000 in
theorem c_X10_addHouse_no2 {g : Nat → Int32} {c : Nat} {st nu : Int32} (μ : pm_Mm) (hM : μ.1 48 = g) (hG : lr_G g) (ho : lr_hok g st nu = true) (hn : lr_n g 2 = 16) : pm_CT mi_X10_addHouse [.ref 47, .int st, .int nu] μ (fun v μ2 => v = some (.int 0) ∧ μ2 = pm_set μ 47 7 2) pm_NX := by
  refine pm_CT_of (lo := [some (.ref 47), some (.int st), some (.int nu), none, none]) (by decide +kernel) rfl rfl (by intro v hv; simp at hv; rcases hv with rfl | rfl | rfl <;> rfl) (Nat.le_of_ble_eq_true rfl) rfl ?_
  have hm1 := lr_mh hG; have hm2 := lr_mw hG; have hm3 := lr_mp hG; have hm4 := lr_mr hG; have hm5 := lr_ma hG; have hm6 := lr_ml hG
  have K : pm_V mi_X10_addHouse ((fun v μ2 => v = some (.int 0) ∧ μ2 = pm_set μ 47 7 2), pm_NX, fun _ _ _ => True) 0 0 75 [some (.ref 47), some (.int st), some (.int nu), some (.int (lr_b (lr_hok g st nu))), none] [] μ := by
    rw [ho]
    refine pm_bl [(.aload_n 0, 1, 0, 0, 0), (.iload_n 3, 1, 3, 0, 0)] (pc1 := 77) (lo1 := [some (.ref 47), some (.int st), some (.int nu), some (.int 1), none]) (st1 := [.int 1, .ref 47]) (μ1 := μ) (vc := True) rfl (by decide +kernel) rfl trivial ?_
    refine pm_if_ne (off := 7) 84 (by decide +kernel) (by decide) (fun _ => ?_) (fun h9 => absurd h9 (by decide))
    refine pm_bl [(.aload_n 0, 1, 0, 0, 0), (.getfield 7, 3, 10, 0, 0), (.iconst 2, 1, 0, 0, 2), (.iaload, 1, 0, 0, 0)] (pc1 := 90) (lo1 := [some (.ref 47), some (.int st), some (.int nu), some (.int 1), none]) (st1 := [.int (μ.1 48 (2 : Int32).toNatClampNeg), .ref 47]) (μ1 := μ) (vc := vp_in 2 620 ∧ True) rfl (by decide +kernel) rfl ⟨(by unfold vp_in; decide), trivial⟩ ?_
    rw [show (2 : Int32).toNatClampNeg = 2 from by decide, hM, lr_gh hG]
    refine pm_bl [(.bipush 16, 2, 0, 0, 16)] (pc1 := 92) (lo1 := [some (.ref 47), some (.int st), some (.int nu), some (.int 1), none]) (st1 := [.int 16, .int (nI (lr_n g 2)), .ref 47]) (μ1 := μ) (vc := True) rfl (by decide +kernel) rfl trivial ?_
    refine pm_icmp_ne (off := 7) 99 (by decide +kernel) (by decide) (fun (h9 : ¬ (nI (lr_n g 2)) = 16) => absurd (by rw [hn]; decide) h9) (fun (h92 : (nI (lr_n g 2)) = 16) => ?_)
    refine pm_bl [(.iconst 2, 1, 0, 0, 2), (.goto 4, 3, 100, 0, 0), (.putfield 35, 3, 10, 7, 0), (.aload_n 0, 1, 0, 0, 0), (.getfield 35, 3, 10, 7, 0)] (pc1 := 107) (lo1 := [some (.ref 47), some (.int st), some (.int nu), some (.int 1), none]) (st1 := [.int ((pm_set μ 47 7 2).1 47 7)]) (μ1 := pm_set μ 47 7 2) (vc := True) rfl (by decide +kernel) rfl trivial ?_
    rw [show (pm_set μ 47 7 2).1 47 7 = 2 from by rw [pm_set_hit] <;> omega]
    refine pm_if_le (off := 5) 112 (by decide +kernel) (by decide) (fun h9 => absurd h9 (by decide)) (fun _ => ?_)
    refine pm_bl [(.iconst 0, 1, 0, 0, 0)] (pc1 := 111) (lo1 := [some (.ref 47), some (.int st), some (.int nu), some (.int 1), none]) (st1 := [.int 0]) (μ1 := pm_set μ 47 7 2) (vc := True) rfl (by decide +kernel) rfl trivial ?_
    exact pm_iret (ty := .int) rfl rfl (by decide) (by decide) (by decide +kernel) (⟨rfl, rfl⟩)
  refine pm_bl [(.iload_n 1, 1, 1, 0, 0), (.iconst 0, 1, 0, 0, 0), (.iconst 4, 1, 0, 0, 4)] (pc1 := 3) (lo1 := [some (.ref 47), some (.int st), some (.int nu), none, none]) (st1 := [.int 4, .int 0, .int st]) (μ1 := μ) (vc := True) rfl (by decide +kernel) rfl trivial ?_
  refine pm_callS2 mi_X10_in (ix := 45) (kc2 := 0) (ks2 := 0) (As := [.int st, .int 0, .int 4]) (rest := []) (c_X10_in st 0 4 μ) cal_X10_in lk10_45 (by decide +kernel) rfl (by decide +kernel) rfl rfl (Nat.le_of_ble_eq_true rfl) (by decide) (by decide) (fun _ _ h9 => h9.elim) ?_
  rintro _ _ ⟨rfl, h9⟩; rw [h9]; clear h9
  show pm_V _ _ _ _ 6 _ [.int (lr_b (lr_in st 0 4))] _
  refine pm_ifb_eq (off := 17) 23 (by decide +kernel) (by decide) (fun (h6 : (lr_in st 0 4) = false) => ?_) (fun (h6 : (lr_in st 0 4) = true) => ?_)
  · refine pm_bl [(.iconst 0, 1, 0, 0, 0), (.istore_n 3, 1, 3, 0, 0), (.iconst 0, 1, 0, 0, 0), (.istore 4, 2, 4, 0, 0)] (pc1 := 28) (lo1 := [some (.ref 47), some (.int st), some (.int nu), some (.int 0), some (.int 0)]) (st1 := []) (μ1 := μ) (vc := True) rfl (by decide +kernel) rfl trivial ?_
    exact l_X10_addHouse _ st nu (lr_hok g st nu) μ hM hG K (lr_n g 2) 0 (Nat.zero_add _) false (by simp_all [lr_hok, lr_hex])
  · refine pm_bl [(.iload_n 2, 1, 2, 0, 0), (.iconst 1, 1, 0, 0, 1), (.bipush 99, 2, 0, 0, 99)] (pc1 := 13) (lo1 := [some (.ref 47), some (.int st), some (.int nu), none, none]) (st1 := [.int 99, .int 1, .int nu]) (μ1 := μ) (vc := True) rfl (by decide +kernel) rfl trivial ?_
    refine pm_callS2 mi_X10_in (ix := 45) (kc2 := 0) (ks2 := 0) (As := [.int nu, .int 1, .int 99]) (rest := []) (c_X10_in nu 1 99 μ) cal_X10_in lk10_45 (by decide +kernel) rfl (by decide +kernel) rfl rfl (Nat.le_of_ble_eq_true rfl) (by decide) (by decide) (fun _ _ h9 => h9.elim) ?_
    rintro _ _ ⟨rfl, h9⟩; rw [h9]; clear h9
    show pm_V _ _ _ _ 16 _ [.int (lr_b (lr_in nu 1 99))] _
    refine pm_ifb_eq (off := 7) 23 (by decide +kernel) (by decide) (fun (h16 : (lr_in nu 1 99) = false) => ?_) (fun (h16 : (lr_in nu 1 99) = true) => ?_)
    · refine pm_bl [(.iconst 0, 1, 0, 0, 0), (.istore_n 3, 1, 3, 0, 0), (.iconst 0, 1, 0, 0, 0), (.istore 4, 2, 4, 0, 0)] (pc1 := 28) (lo1 := [some (.ref 47), some (.int st), some (.int nu), some (.int 0), some (.int 0)]) (st1 := []) (μ1 := μ) (vc := True) rfl (by decide +kernel) rfl trivial ?_
      exact l_X10_addHouse _ st nu (lr_hok g st nu) μ hM hG K (lr_n g 2) 0 (Nat.zero_add _) false (by simp_all [lr_hok, lr_hex])
    · refine pm_bl [(.iconst 1, 1, 0, 0, 1), (.goto 4, 3, 24, 0, 0), (.istore_n 3, 1, 3, 0, 0), (.iconst 0, 1, 0, 0, 0), (.istore 4, 2, 4, 0, 0)] (pc1 := 28) (lo1 := [some (.ref 47), some (.int st), some (.int nu), some (.int 1), some (.int 0)]) (st1 := []) (μ1 := μ) (vc := True) rfl (by decide +kernel) rfl trivial ?_
      exact l_X10_addHouse _ st nu (lr_hok g st nu) μ hM hG K (lr_n g 2) 0 (Nat.zero_add _) true (by simp_all [lr_hok, lr_hex])
set_option maxHeartbeats 4000000 in
set_option maxRecDepth 100000 in
theorem c_X10_addHouse {g : Nat → Int32} {c : Nat} {st nu : Int32} (μ : pm_Mm) (hM : μ.1 48 = g) (hG : lr_G g) (hp : μ.1 47 5 = nI c) (hc8 : c ≤ 8) (ho : lr_hok g st nu = true) (hn : lr_n g 2 < 16) : pm_CT mi_X10_addHouse [.ref 47, .int st, .int nu] μ (fun v μ2 => v = some (.int (nI (lr_n g 2))) ∧ lr_fm (lr_chg (pm_set μ 47 7 0) 48) μ2 ∧ μ2.1 48 = lr_gX3_add g st nu) pm_NX := by
  refine pm_CT_of (lo := [some (.ref 47), some (.int st), some (.int nu), none, none]) (by decide +kernel) rfl rfl (by intro v hv; simp at hv; rcases hv with rfl | rfl | rfl <;> rfl) (Nat.le_of_ble_eq_true rfl) rfl ?_
  have hm1 := lr_mh hG; have hm2 := lr_mw hG; have hm3 := lr_mp hG; have hm4 := lr_mr hG; have hm5 := lr_ma hG; have hm6 := lr_ml hG
  have K : pm_V mi_X10_addHouse ((fun v μ2 => v = some (.int (nI (lr_n g 2))) ∧ lr_fm (lr_chg (pm_set μ 47 7 0) 48) μ2 ∧ μ2.1 48 = lr_gX3_add g st nu), pm_NX, fun _ _ _ => True) 0 0 75 [some (.ref 47), some (.int st), some (.int nu), some (.int (lr_b (lr_hok g st nu))), none] [] μ := by
    rw [ho]
    refine pm_bl [(.aload_n 0, 1, 0, 0, 0), (.iload_n 3, 1, 3, 0, 0)] (pc1 := 77) (lo1 := [some (.ref 47), some (.int st), some (.int nu), some (.int 1), none]) (st1 := [.int 1, .ref 47]) (μ1 := μ) (vc := True) rfl (by decide +kernel) rfl trivial ?_
    refine pm_if_ne (off := 7) 84 (by decide +kernel) (by decide) (fun _ => ?_) (fun h9 => absurd h9 (by decide))
    refine pm_bl [(.aload_n 0, 1, 0, 0, 0), (.getfield 7, 3, 10, 0, 0), (.iconst 2, 1, 0, 0, 2), (.iaload, 1, 0, 0, 0)] (pc1 := 90) (lo1 := [some (.ref 47), some (.int st), some (.int nu), some (.int 1), none]) (st1 := [.int (μ.1 48 (2 : Int32).toNatClampNeg), .ref 47]) (μ1 := μ) (vc := vp_in 2 620 ∧ True) rfl (by decide +kernel) rfl ⟨(by unfold vp_in; decide), trivial⟩ ?_
    rw [show (2 : Int32).toNatClampNeg = 2 from by decide, hM, lr_gh hG]
    refine pm_bl [(.bipush 16, 2, 0, 0, 16)] (pc1 := 92) (lo1 := [some (.ref 47), some (.int st), some (.int nu), some (.int 1), none]) (st1 := [.int 16, .int (nI (lr_n g 2)), .ref 47]) (μ1 := μ) (vc := True) rfl (by decide +kernel) rfl trivial ?_
    refine pm_icmp_ne (off := 7) 99 (by decide +kernel) (by decide) (fun (h92 : ¬ (nI (lr_n g 2)) = 16) => ?_) (fun (h9 : (nI (lr_n g 2)) = 16) => absurd ((nI_eq (a := lr_n g 2) (b := 16) (by omega) (by omega)).mp h9) (by omega))
    refine pm_bl [(.iconst 0, 1, 0, 0, 0), (.putfield 35, 3, 10, 7, 0), (.aload_n 0, 1, 0, 0, 0), (.getfield 35, 3, 10, 7, 0)] (pc1 := 107) (lo1 := [some (.ref 47), some (.int st), some (.int nu), some (.int 1), none]) (st1 := [.int ((pm_set μ 47 7 0).1 47 7)]) (μ1 := pm_set μ 47 7 0) (vc := True) rfl (by decide +kernel) rfl trivial ?_
    rw [show (pm_set μ 47 7 0).1 47 7 = 0 from by rw [pm_set_hit] <;> omega]
    refine pm_if_le (off := 5) 112 (by decide +kernel) (by decide) (fun _ => ?_) (fun h9 => absurd h9 (by decide))
    refine pm_bl [(.aload_n 0, 1, 0, 0, 0), (.aload_n 0, 1, 0, 0, 0), (.getfield 7, 3, 10, 0, 0)] (pc1 := 117) (lo1 := [some (.ref 47), some (.int st), some (.int nu), some (.int 1), none]) (st1 := [.ref 48, .ref 47]) (μ1 := pm_set μ 47 7 0) (vc := True) rfl (by decide +kernel) rfl trivial ?_
    refine pm_callV2 mi_X10_changes (ix := 66) (b := 47) (ci := 10) (kc2 := 0) (ks2 := 0) (As := [.ref 48]) (rest := []) (c_X10_changes_48 (c := c) (pm_set μ 47 7 0) (by first | exact hp | (rw [pm_set_miss (Or.inr (by decide))]; exact hp)) hc8) cal_X10_changes lk10_66 (by decide +kernel) rfl (by decide +kernel) rfl rfl rfl rfl (Nat.le_of_ble_eq_true rfl) (by decide) (by decide) (fun _ _ h9 => h9.elim) ?_
    rintro _ μ1 ⟨rfl, hq⟩
    have hM1 : μ1.1 48 = g := by rw [hq, lr_chg_off (by decide) (by decide)]; first | exact hM | (rw [pm_set_off (by decide)]; exact hM)
    show pm_V _ _ _ _ 120 _ [] _
    refine pm_bl [(.aload_n 0, 1, 0, 0, 0), (.getfield 7, 3, 10, 0, 0), (.iconst 2, 1, 0, 0, 2), (.iaload, 1, 0, 0, 0)] (pc1 := 126) (lo1 := [some (.ref 47), some (.int st), some (.int nu), some (.int 1), none]) (st1 := [.int (μ1.1 48 (2 : Int32).toNatClampNeg)]) (μ1 := μ1) (vc := vp_in 2 620 ∧ True) rfl (by decide +kernel) rfl ⟨(by unfold vp_in; decide), trivial⟩ ?_
    rw [show (2 : Int32).toNatClampNeg = 2 from by decide, hM1, lr_gh hG]
    refine pm_bl [(.istore 4, 2, 4, 0, 0), (.aload_n 0, 1, 0, 0, 0), (.getfield 7, 3, 10, 0, 0), (.iconst 3, 1, 0, 0, 3), (.iconst 2, 1, 0, 0, 2), (.iload 4, 2, 4, 0, 0), (.imul, 1, 0, 0, 0), (.iadd, 1, 0, 0, 0), (.iload_n 1, 1, 1, 0, 0)] (pc1 := 139) (lo1 := [some (.ref 47), some (.int st), some (.int nu), some (.int 1), some (.int (nI (lr_n g 2)))]) (st1 := [.int st, .int (3 + (2 * (nI (lr_n g 2)))), .ref 48]) (μ1 := μ1) (vc := True) rfl (by decide +kernel) rfl trivial ?_
    rw [(show (3 + (2 * (nI (lr_n g 2))) : Int32) = nI (3 + (2 * ((lr_n g 2)))) from by simp only [nI, Int32.ofNat_add, Int32.ofNat_mul]; rfl).trans (congrArg nI (show 3 + (2 * ((lr_n g 2))) = 3 + 2 * (lr_n g 2) from by omega))]
    refine pm_bl [(.iastore, 1, 0, 0, 0), (.aload_n 0, 1, 0, 0, 0), (.getfield 7, 3, 10, 0, 0), (.iconst 3, 1, 0, 0, 3), (.iconst 2, 1, 0, 0, 2), (.iload 4, 2, 4, 0, 0), (.imul, 1, 0, 0, 0), (.iadd, 1, 0, 0, 0), (.iconst 1, 1, 0, 0, 1), (.iadd, 1, 0, 0, 0), (.iload_n 2, 1, 2, 0, 0)] (pc1 := 153) (lo1 := [some (.ref 47), some (.int st), some (.int nu), some (.int 1), some (.int (nI (lr_n g 2)))]) (st1 := [.int nu, .int ((3 + (2 * (nI (lr_n g 2)))) + 1), .ref 48]) (μ1 := pm_set μ1 48 ((nI (3 + 2 * (lr_n g 2))).toNatClampNeg) st) (vc := vp_in (nI (3 + 2 * (lr_n g 2))) 620 ∧ True) rfl (by decide +kernel) rfl ⟨(vp_in_nI (by omega) (by omega)), trivial⟩ ?_
    try rw [nI_clamp (n := (3 + 2 * (lr_n g 2))) (by omega)]
    rw [(show ((3 + (2 * (nI (lr_n g 2)))) + 1 : Int32) = nI ((3 + (2 * ((lr_n g 2)))) + 1) from by simp only [nI, Int32.ofNat_add, Int32.ofNat_mul]; rfl).trans (congrArg nI (show (3 + (2 * ((lr_n g 2)))) + 1 = 4 + 2 * (lr_n g 2) from by omega))]
    refine pm_bl [(.iastore, 1, 0, 0, 0), (.aload_n 0, 1, 0, 0, 0), (.getfield 7, 3, 10, 0, 0), (.iconst 2, 1, 0, 0, 2), (.dup2, 1, 0, 0, 0), (.iaload, 1, 0, 0, 0)] (pc1 := 161) (lo1 := [some (.ref 47), some (.int st), some (.int nu), some (.int 1), some (.int (nI (lr_n g 2)))]) (st1 := [.int ((pm_set (pm_set μ1 48 (3 + 2 * (lr_n g 2)) st) 48 ((nI (4 + 2 * (lr_n g 2))).toNatClampNeg) nu).1 48 (2 : Int32).toNatClampNeg), .int 2, .ref 48]) (μ1 := pm_set (pm_set μ1 48 (3 + 2 * (lr_n g 2)) st) 48 ((nI (4 + 2 * (lr_n g 2))).toNatClampNeg) nu) (vc := vp_in (nI (4 + 2 * (lr_n g 2))) 620 ∧ vp_in 2 620 ∧ True) rfl (by decide +kernel) rfl ⟨(vp_in_nI (by omega) (by omega)), (by unfold vp_in; decide), trivial⟩ ?_
    try rw [show (2 : Int32).toNatClampNeg = 2 from by decide]
    try rw [nI_clamp (n := (4 + 2 * (lr_n g 2))) (by omega)]
    refine pm_bl [(.iconst 1, 1, 0, 0, 1), (.iadd, 1, 0, 0, 0), (.iastore, 1, 0, 0, 0), (.iload 4, 2, 4, 0, 0)] (pc1 := 166) (lo1 := [some (.ref 47), some (.int st), some (.int nu), some (.int 1), some (.int (nI (lr_n g 2)))]) (st1 := [.int (nI (lr_n g 2))]) (μ1 := pm_set (pm_set (pm_set μ1 48 (3 + 2 * (lr_n g 2)) st) 48 (4 + 2 * (lr_n g 2)) nu) 48 ((2 : Int32).toNatClampNeg) (((pm_set (pm_set μ1 48 (3 + 2 * (lr_n g 2)) st) 48 (4 + 2 * (lr_n g 2)) nu).1 48 2) + 1)) (vc := vp_in 2 620 ∧ True) rfl (by decide +kernel) rfl ⟨(by unfold vp_in; decide), trivial⟩ ?_
    try rw [show (2 : Int32).toNatClampNeg = 2 from by decide]
    exact pm_iret (ty := .int) rfl rfl (by decide) (by decide) (by decide +kernel) (⟨rfl, by rw [← hq]; exact lr_fm.set (lr_fm.set (lr_fm.set lr_fm.rf)), by rw [pm_set_miss, pm_set_miss, hM1, lr_gh hG, nI_1] <;> first | (right; omega) | (simp only [pm_set_at]; rw [hM1]; rfl)⟩)
  refine pm_bl [(.iload_n 1, 1, 1, 0, 0), (.iconst 0, 1, 0, 0, 0), (.iconst 4, 1, 0, 0, 4)] (pc1 := 3) (lo1 := [some (.ref 47), some (.int st), some (.int nu), none, none]) (st1 := [.int 4, .int 0, .int st]) (μ1 := μ) (vc := True) rfl (by decide +kernel) rfl trivial ?_
  refine pm_callS2 mi_X10_in (ix := 45) (kc2 := 0) (ks2 := 0) (As := [.int st, .int 0, .int 4]) (rest := []) (c_X10_in st 0 4 μ) cal_X10_in lk10_45 (by decide +kernel) rfl (by decide +kernel) rfl rfl (Nat.le_of_ble_eq_true rfl) (by decide) (by decide) (fun _ _ h9 => h9.elim) ?_
  rintro _ _ ⟨rfl, h9⟩; rw [h9]; clear h9
  show pm_V _ _ _ _ 6 _ [.int (lr_b (lr_in st 0 4))] _
  refine pm_ifb_eq (off := 17) 23 (by decide +kernel) (by decide) (fun (h6 : (lr_in st 0 4) = false) => ?_) (fun (h6 : (lr_in st 0 4) = true) => ?_)
  · refine pm_bl [(.iconst 0, 1, 0, 0, 0), (.istore_n 3, 1, 3, 0, 0), (.iconst 0, 1, 0, 0, 0), (.istore 4, 2, 4, 0, 0)] (pc1 := 28) (lo1 := [some (.ref 47), some (.int st), some (.int nu), some (.int 0), some (.int 0)]) (st1 := []) (μ1 := μ) (vc := True) rfl (by decide +kernel) rfl trivial ?_
    exact l_X10_addHouse _ st nu (lr_hok g st nu) μ hM hG K (lr_n g 2) 0 (Nat.zero_add _) false (by simp_all [lr_hok, lr_hex])
  · refine pm_bl [(.iload_n 2, 1, 2, 0, 0), (.iconst 1, 1, 0, 0, 1), (.bipush 99, 2, 0, 0, 99)] (pc1 := 13) (lo1 := [some (.ref 47), some (.int st), some (.int nu), none, none]) (st1 := [.int 99, .int 1, .int nu]) (μ1 := μ) (vc := True) rfl (by decide +kernel) rfl trivial ?_
    refine pm_callS2 mi_X10_in (ix := 45) (kc2 := 0) (ks2 := 0) (As := [.int nu, .int 1, .int 99]) (rest := []) (c_X10_in nu 1 99 μ) cal_X10_in lk10_45 (by decide +kernel) rfl (by decide +kernel) rfl rfl (Nat.le_of_ble_eq_true rfl) (by decide) (by decide) (fun _ _ h9 => h9.elim) ?_
    rintro _ _ ⟨rfl, h9⟩; rw [h9]; clear h9
    show pm_V _ _ _ _ 16 _ [.int (lr_b (lr_in nu 1 99))] _
    refine pm_ifb_eq (off := 7) 23 (by decide +kernel) (by decide) (fun (h16 : (lr_in nu 1 99) = false) => ?_) (fun (h16 : (lr_in nu 1 99) = true) => ?_)
    · refine pm_bl [(.iconst 0, 1, 0, 0, 0), (.istore_n 3, 1, 3, 0, 0), (.iconst 0, 1, 0, 0, 0), (.istore 4, 2, 4, 0, 0)] (pc1 := 28) (lo1 := [some (.ref 47), some (.int st), some (.int nu), some (.int 0), some (.int 0)]) (st1 := []) (μ1 := μ) (vc := True) rfl (by decide +kernel) rfl trivial ?_
      exact l_X10_addHouse _ st nu (lr_hok g st nu) μ hM hG K (lr_n g 2) 0 (Nat.zero_add _) false (by simp_all [lr_hok, lr_hex])
    · refine pm_bl [(.iconst 1, 1, 0, 0, 1), (.goto 4, 3, 24, 0, 0), (.istore_n 3, 1, 3, 0, 0), (.iconst 0, 1, 0, 0, 0), (.istore 4, 2, 4, 0, 0)] (pc1 := 28) (lo1 := [some (.ref 47), some (.int st), some (.int nu), some (.int 1), some (.int 0)]) (st1 := []) (μ1 := μ) (vc := True) rfl (by decide +kernel) rfl trivial ?_
      exact l_X10_addHouse _ st nu (lr_hok g st nu) μ hM hG K (lr_n g 2) 0 (Nat.zero_add _) true (by simp_all [lr_hok, lr_hex])
