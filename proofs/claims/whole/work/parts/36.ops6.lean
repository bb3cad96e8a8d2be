/-! the model: the house at a stop -/
set_option maxHeartbeats 4000000 in
set_option maxRecDepth 100000 in
theorem l_X10_stop {g : Nat → Int32} (u : Nat) (hu : u < lr_n g 116) (ix : Int32) (μ : pm_Mm) (hM : μ.1 48 = g) (hG : lr_G g) : ∀ n k : Nat, k + n = lr_n g 2 → (lr_hs g (nI u) ix) = lr_fst (fun i => decide (lr_sv g i = nI u) && decide (lr_sp g i = ix)) n k → pm_V mi_X10_stop ((fun v μ2 => v = some (.int (if (lr_hs g (nI u) ix) = -1 then 0 else (lr_hs g (nI u) ix))) ∧ μ2 = if (lr_hs g (nI u) ix) = -1 then pm_set μ 47 7 2 else μ), pm_NX, fun _ _ _ => True) 0 0 37 [some (.ref 47), some (.int (nI u)), some (.int ix), some (.int (nI k))] [] μ := by
  have hm1 := lr_mh hG; have hm2 := lr_mw hG; have hm3 := lr_mp hG; have hm4 := lr_mr hG; have hm5 := lr_ma hG; have hm6 := lr_ml hG
  intro n
  induction n with
  | zero =>
    intro k hk he
    refine pm_bl [(.iload_n 3, 1, 3, 0, 0), (.aload_n 0, 1, 0, 0, 0), (.getfield 7, 3, 10, 0, 0), (.iconst 2, 1, 0, 0, 2), (.iaload, 1, 0, 0, 0)] (pc1 := 44) (lo1 := [some (.ref 47), some (.int (nI u)), some (.int ix), some (.int (nI k))]) (st1 := [.int (μ.1 48 (2 : Int32).toNatClampNeg), .int (nI k)]) (μ1 := μ) (vc := vp_in 2 620 ∧ True) rfl (by decide +kernel) rfl ⟨(by unfold vp_in; decide), trivial⟩ ?_
    rw [show (2 : Int32).toNatClampNeg = 2 from by decide, hM, lr_gh hG]
    refine pm_icmp_ge (off := 29) 73 (by decide +kernel) (by decide) (fun (h44 : (nI (lr_n g 2)) ≤ (nI k)) => ?_) (fun (h9 : ¬ ((nI (lr_n g 2)) ≤ (nI k))) => absurd (nI_le (by omega) (by omega)) h9)
    refine pm_bl [(.aload_n 0, 1, 0, 0, 0), (.iconst 2, 1, 0, 0, 2)] (pc1 := 75) (lo1 := [some (.ref 47), some (.int (nI u)), some (.int ix), some (.int (nI k))]) (st1 := [.int 2, .ref 47]) (μ1 := μ) (vc := True) rfl (by decide +kernel) rfl trivial ?_
    refine pm_callV2 mi_X10_fails (ix := 41) (b := 47) (ci := 10) (kc2 := 0) (ks2 := 0) (As := [.int 2]) (rest := []) (c_X10_fails 2 μ) cal_X10_fails lk10_41 (by decide +kernel) rfl (by decide +kernel) rfl rfl rfl rfl (Nat.le_of_ble_eq_true rfl) (by decide) (by decide) (fun _ _ h9 => h9.elim) ?_
    rintro _ _ ⟨rfl, h9⟩; rw [h9]; clear h9
    show pm_V _ _ _ _ 78 _ [.int 0] _
    exact pm_iret (ty := .int) rfl rfl (by decide) (by decide) (by decide +kernel) (⟨by rw [he]; rfl, by rw [he]; rfl⟩)
  | succ n ih =>
    intro k hk he
    refine pm_bl [(.iload_n 3, 1, 3, 0, 0), (.aload_n 0, 1, 0, 0, 0), (.getfield 7, 3, 10, 0, 0), (.iconst 2, 1, 0, 0, 2), (.iaload, 1, 0, 0, 0)] (pc1 := 44) (lo1 := [some (.ref 47), some (.int (nI u)), some (.int ix), some (.int (nI k))]) (st1 := [.int (μ.1 48 (2 : Int32).toNatClampNeg), .int (nI k)]) (μ1 := μ) (vc := vp_in 2 620 ∧ True) rfl (by decide +kernel) rfl ⟨(by unfold vp_in; decide), trivial⟩ ?_
    rw [show (2 : Int32).toNatClampNeg = 2 from by decide, hM, lr_gh hG]
    refine pm_icmp_ge (off := 29) 73 (by decide +kernel) (by decide) (fun (h9 : (nI (lr_n g 2)) ≤ (nI k)) => absurd h9 (nI_ge (by omega) (by omega))) (fun (h44 : ¬ ((nI (lr_n g 2)) ≤ (nI k))) => ?_)
    refine pm_bl [(.aload_n 0, 1, 0, 0, 0), (.iload_n 3, 1, 3, 0, 0)] (pc1 := 49) (lo1 := [some (.ref 47), some (.int (nI u)), some (.int ix), some (.int (nI k))]) (st1 := [.int (nI k), .ref 47]) (μ1 := μ) (vc := True) rfl (by decide +kernel) rfl trivial ?_
    refine pm_callV2 mi_X10_serving (ix := 78) (b := 47) (ci := 10) (kc2 := 0) (ks2 := 0) (As := [.int (nI k)]) (rest := []) (c_X10_serving (h := k) μ hM hG (by omega)) cal_X10_serving lk10_78 (by decide +kernel) rfl (by decide +kernel) rfl rfl rfl rfl (Nat.le_of_ble_eq_true rfl) (by decide) (by decide) (fun _ _ h9 => h9.elim) ?_
    rintro _ _ ⟨rfl, h9⟩; rw [h9]; clear h9
    show pm_V _ _ _ _ 52 _ [.int (lr_sv g k)] _
    refine pm_bl [(.iload_n 1, 1, 1, 0, 0)] (pc1 := 53) (lo1 := [some (.ref 47), some (.int (nI u)), some (.int ix), some (.int (nI k))]) (st1 := [.int (nI u), .int (lr_sv g k)]) (μ1 := μ) (vc := True) rfl (by decide +kernel) rfl trivial ?_
    refine pm_icmp_ne (off := 14) 67 (by decide +kernel) (by decide) (fun (h53 : ¬ (lr_sv g k) = (nI u)) => ?_) (fun (h53 : (lr_sv g k) = (nI u)) => ?_)
    · refine pm_bl [(.iinc 3 1, 3, 3, 0, 1), (.goto (-33), 3, 37, 0, 0)] (pc1 := 37) (lo1 := [some (.ref 47), some (.int (nI u)), some (.int ix), some (.int ((nI k) + 1))]) (st1 := []) (μ1 := μ) (vc := True) rfl (by decide +kernel) rfl trivial ?_
      rw [nI_1]; exact ih (k + 1) (by omega) (by rw [he]; simp only [lr_fst]; rw [if_neg (by simp_all)])
    · refine pm_bl [(.aload_n 0, 1, 0, 0, 0), (.iload_n 3, 1, 3, 0, 0)] (pc1 := 58) (lo1 := [some (.ref 47), some (.int (nI u)), some (.int ix), some (.int (nI k))]) (st1 := [.int (nI k), .ref 47]) (μ1 := μ) (vc := True) rfl (by decide +kernel) rfl trivial ?_
      refine pm_callV2 mi_X10_stopsAhead (ix := 84) (b := 47) (ci := 10) (kc2 := 0) (ks2 := 0) (As := [.int (nI k)]) (rest := []) (c_X10_stopsAhead (h := k) (u := u) μ hM hG (by omega) hu h53) cal_X10_stopsAhead lk10_84 (by decide +kernel) rfl (by decide +kernel) rfl rfl rfl rfl (Nat.le_of_ble_eq_true rfl) (by decide) (by decide) (fun _ _ h9 => h9.elim) ?_
      rintro _ _ ⟨rfl, h9⟩; rw [h9]; clear h9
      show pm_V _ _ _ _ 61 _ [.int (lr_sp g k)] _
      refine pm_bl [(.iload_n 2, 1, 2, 0, 0)] (pc1 := 62) (lo1 := [some (.ref 47), some (.int (nI u)), some (.int ix), some (.int (nI k))]) (st1 := [.int ix, .int (lr_sp g k)]) (μ1 := μ) (vc := True) rfl (by decide +kernel) rfl trivial ?_
      refine pm_icmp_ne (off := 5) 67 (by decide +kernel) (by decide) (fun (h62 : ¬ (lr_sp g k) = ix) => ?_) (fun (h62 : (lr_sp g k) = ix) => ?_)
      · refine pm_bl [(.iinc 3 1, 3, 3, 0, 1), (.goto (-33), 3, 37, 0, 0)] (pc1 := 37) (lo1 := [some (.ref 47), some (.int (nI u)), some (.int ix), some (.int ((nI k) + 1))]) (st1 := []) (μ1 := μ) (vc := True) rfl (by decide +kernel) rfl trivial ?_
        rw [nI_1]; exact ih (k + 1) (by omega) (by rw [he]; simp only [lr_fst]; rw [if_neg (by simp_all)])
      · refine pm_bl [(.iload_n 3, 1, 3, 0, 0)] (pc1 := 66) (lo1 := [some (.ref 47), some (.int (nI u)), some (.int ix), some (.int (nI k))]) (st1 := [.int (nI k)]) (μ1 := μ) (vc := True) rfl (by decide +kernel) rfl trivial ?_
        exact pm_iret (ty := .int) rfl rfl (by decide) (by decide) (by decide +kernel) (⟨by rw [show (lr_hs g (nI u) ix) = nI k from by rw [he]; simp only [lr_fst]; rw [if_pos (by simp_all)], if_neg (lr_ne1 (by omega))], by rw [show (lr_hs g (nI u) ix) = nI k from by rw [he]; simp only [lr_fst]; rw [if_pos (by simp_all)], if_neg (lr_ne1 (by omega))]⟩)
set_option maxHeartbeats 4000000 in
set_option maxRecDepth 100000 in
theorem c_X10_stop_no1 {g : Nat → Int32} {x : Int32} (y : Int32) (μ : pm_Mm) (hM : μ.1 48 = g) (hG : lr_G g) (hb : lr_be x (nI (lr_n g 116)) = false) : pm_CT mi_X10_stop [.ref 47, .int x, .int y] μ (fun v μ2 => v = some (.int 0) ∧ μ2 = pm_set μ 47 7 1) pm_NX := by
  refine pm_CT_of (lo := [some (.ref 47), some (.int x), some (.int y), none]) (by decide +kernel) rfl rfl (by intro v hv; simp at hv; rcases hv with rfl | rfl | rfl <;> rfl) (Nat.le_of_ble_eq_true rfl) rfl ?_
  have hm1 := lr_mh hG; have hm2 := lr_mw hG; have hm3 := lr_mp hG; have hm4 := lr_mr hG; have hm5 := lr_ma hG; have hm6 := lr_ml hG
  refine pm_bl [(.aload_n 0, 1, 0, 0, 0), (.iload_n 1, 1, 1, 0, 0), (.iconst 0, 1, 0, 0, 0), (.aload_n 0, 1, 0, 0, 0), (.getfield 7, 3, 10, 0, 0), (.bipush 116, 2, 0, 0, 116), (.iaload, 1, 0, 0, 0)] (pc1 := 10) (lo1 := [some (.ref 47), some (.int x), some (.int y), none]) (st1 := [.int (μ.1 48 (116 : Int32).toNatClampNeg), .int 0, .int x, .ref 47]) (μ1 := μ) (vc := vp_in 116 620 ∧ True) rfl (by decide +kernel) rfl ⟨(by unfold vp_in; decide), trivial⟩ ?_
  rw [show (116 : Int32).toNatClampNeg = 116 from by decide, hM, lr_gw hG]
  refine pm_bl [(.iconst 1, 1, 0, 0, 1), (.isub, 1, 0, 0, 0)] (pc1 := 12) (lo1 := [some (.ref 47), some (.int x), some (.int y), none]) (st1 := [.int ((nI (lr_n g 116)) - 1), .int 0, .int x, .ref 47]) (μ1 := μ) (vc := True) rfl (by decide +kernel) rfl trivial ?_
  refine pm_callS2 mi_X10_in (ix := 45) (kc2 := 0) (ks2 := 0) (As := [.int x, .int 0, .int ((nI (lr_n g 116)) - 1)]) (rest := [.ref 47]) (c_X10_in x 0 ((nI (lr_n g 116)) - 1) μ) cal_X10_in lk10_45 (by decide +kernel) rfl (by decide +kernel) rfl rfl (Nat.le_of_ble_eq_true rfl) (by decide) (by decide) (fun _ _ h9 => h9.elim) ?_
  rintro _ _ ⟨rfl, h9⟩; rw [h9]; clear h9
  show pm_V _ _ _ _ 15 _ [.int (lr_b (lr_in x 0 ((nI (lr_n g 116)) - 1))), .ref 47] _
  refine pm_ifb_eq (off := 7) 22 (by decide +kernel) (by decide) (fun (h15 : (lr_in x 0 ((nI (lr_n g 116)) - 1)) = false) => ?_) (fun (h9 : (lr_in x 0 ((nI (lr_n g 116)) - 1)) = true) => absurd ((hb.symm.trans ((lr_in_be (by omega)).symm.trans h9))) (by decide))
  refine pm_bl [(.iconst 1, 1, 0, 0, 1), (.putfield 35, 3, 10, 7, 0), (.aload_n 0, 1, 0, 0, 0), (.getfield 35, 3, 10, 7, 0)] (pc1 := 30) (lo1 := [some (.ref 47), some (.int x), some (.int y), none]) (st1 := [.int ((pm_set μ 47 7 1).1 47 7)]) (μ1 := pm_set μ 47 7 1) (vc := True) rfl (by decide +kernel) rfl trivial ?_
  rw [show (pm_set μ 47 7 1).1 47 7 = 1 from by rw [pm_set_hit] <;> omega]
  refine pm_if_le (off := 5) 35 (by decide +kernel) (by decide) (fun h9 => absurd h9 (by decide)) (fun _ => ?_)
  refine pm_bl [(.iconst 0, 1, 0, 0, 0)] (pc1 := 34) (lo1 := [some (.ref 47), some (.int x), some (.int y), none]) (st1 := [.int 0]) (μ1 := pm_set μ 47 7 1) (vc := True) rfl (by decide +kernel) rfl trivial ?_
  exact pm_iret (ty := .int) rfl rfl (by decide) (by decide) (by decide +kernel) (⟨rfl, rfl⟩)
set_option maxHeartbeats 4000000 in
set_option maxRecDepth 100000 in
theorem c_X10_stop {g : Nat → Int32} {u : Nat} {ix : Int32} (μ : pm_Mm) (hM : μ.1 48 = g) (hG : lr_G g) (hu : u < lr_n g 116) : pm_CT mi_X10_stop [.ref 47, .int (nI u), .int ix] μ (fun v μ2 => v = some (.int (if (lr_hs g (nI u) ix) = -1 then 0 else (lr_hs g (nI u) ix))) ∧ μ2 = if (lr_hs g (nI u) ix) = -1 then pm_set (pm_set μ 47 7 0) 47 7 2 else pm_set μ 47 7 0) pm_NX := by
  refine pm_CT_of (lo := [some (.ref 47), some (.int (nI u)), some (.int ix), none]) (by decide +kernel) rfl rfl (by intro v hv; simp at hv; rcases hv with rfl | rfl | rfl <;> rfl) (Nat.le_of_ble_eq_true rfl) rfl ?_
  have hm1 := lr_mh hG; have hm2 := lr_mw hG; have hm3 := lr_mp hG; have hm4 := lr_mr hG; have hm5 := lr_ma hG; have hm6 := lr_ml hG
  refine pm_bl [(.aload_n 0, 1, 0, 0, 0), (.iload_n 1, 1, 1, 0, 0), (.iconst 0, 1, 0, 0, 0), (.aload_n 0, 1, 0, 0, 0), (.getfield 7, 3, 10, 0, 0), (.bipush 116, 2, 0, 0, 116), (.iaload, 1, 0, 0, 0)] (pc1 := 10) (lo1 := [some (.ref 47), some (.int (nI u)), some (.int ix), none]) (st1 := [.int (μ.1 48 (116 : Int32).toNatClampNeg), .int 0, .int (nI u), .ref 47]) (μ1 := μ) (vc := vp_in 116 620 ∧ True) rfl (by decide +kernel) rfl ⟨(by unfold vp_in; decide), trivial⟩ ?_
  rw [show (116 : Int32).toNatClampNeg = 116 from by decide, hM, lr_gw hG]
  refine pm_bl [(.iconst 1, 1, 0, 0, 1), (.isub, 1, 0, 0, 0)] (pc1 := 12) (lo1 := [some (.ref 47), some (.int (nI u)), some (.int ix), none]) (st1 := [.int ((nI (lr_n g 116)) - 1), .int 0, .int (nI u), .ref 47]) (μ1 := μ) (vc := True) rfl (by decide +kernel) rfl trivial ?_
  refine pm_callS2 mi_X10_in (ix := 45) (kc2 := 0) (ks2 := 0) (As := [.int (nI u), .int 0, .int ((nI (lr_n g 116)) - 1)]) (rest := [.ref 47]) (c_X10_in (nI u) 0 ((nI (lr_n g 116)) - 1) μ) cal_X10_in lk10_45 (by decide +kernel) rfl (by decide +kernel) rfl rfl (Nat.le_of_ble_eq_true rfl) (by decide) (by decide) (fun _ _ h9 => h9.elim) ?_
  rintro _ _ ⟨rfl, h9⟩; rw [h9]; clear h9
  show pm_V _ _ _ _ 15 _ [.int (lr_b (lr_in (nI u) 0 ((nI (lr_n g 116)) - 1))), .ref 47] _
  refine pm_ifb_eq (off := 7) 22 (by decide +kernel) (by decide) (fun (h9 : (lr_in (nI u) 0 ((nI (lr_n g 116)) - 1)) = false) => absurd (h9.symm.trans ((lr_in_be (by omega)).trans (lr_be_1 hu (by omega)))) (by decide)) (fun (h15 : (lr_in (nI u) 0 ((nI (lr_n g 116)) - 1)) = true) => ?_)
  refine pm_bl [(.iconst 0, 1, 0, 0, 0), (.goto 4, 3, 23, 0, 0), (.putfield 35, 3, 10, 7, 0), (.aload_n 0, 1, 0, 0, 0), (.getfield 35, 3, 10, 7, 0)] (pc1 := 30) (lo1 := [some (.ref 47), some (.int (nI u)), some (.int ix), none]) (st1 := [.int ((pm_set μ 47 7 0).1 47 7)]) (μ1 := pm_set μ 47 7 0) (vc := True) rfl (by decide +kernel) rfl trivial ?_
  rw [show (pm_set μ 47 7 0).1 47 7 = 0 from by rw [pm_set_hit] <;> omega]
  refine pm_if_le (off := 5) 35 (by decide +kernel) (by decide) (fun _ => ?_) (fun h9 => absurd h9 (by decide))
  refine pm_bl [(.iconst 0, 1, 0, 0, 0), (.istore_n 3, 1, 3, 0, 0)] (pc1 := 37) (lo1 := [some (.ref 47), some (.int (nI u)), some (.int ix), some (.int 0)]) (st1 := []) (μ1 := pm_set μ 47 7 0) (vc := True) rfl (by decide +kernel) rfl trivial ?_
  exact l_X10_stop u hu ix _ (by rw [pm_set_off (by decide)]; exact hM) hG (lr_n g 2) 0 (Nat.zero_add _) rfl
