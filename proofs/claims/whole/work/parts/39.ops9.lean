/-! the model: returned, delivered -/
set_option maxHeartbeats 4000000 in
set_option maxRecDepth 100000 in
theorem l_X10_returned {g : Nat → Int32} (s : Int32) (μ : pm_Mm) (hM : μ.1 48 = g) (hG : lr_G g) (ht : μ.1 47 7 = 0) : ∀ n k : Nat, ∀ x : Int32, k + n = lr_n g 289 → x = lr_sum (fun i => lr_b (decide (g (296 + 11 * i) = s))) k → pm_V mi_X10_returned ((fun v μ2 => v = some (.int (lr_sum (fun i => lr_b (decide (g (296 + 11 * i) = s))) (lr_n g 289))) ∧ μ2 = μ), pm_NX, fun _ _ _ => True) 0 0 22 [some (.ref 47), some (.int s), some (.int x), some (.int (nI k))] [] μ := by
  have hm1 := lr_mh hG; have hm2 := lr_mw hG; have hm3 := lr_mp hG; have hm4 := lr_mr hG; have hm5 := lr_ma hG; have hm6 := lr_ml hG
  intro n
  induction n with
  | zero =>
    intro k x hk he
    refine pm_bl [(.iload_n 3, 1, 3, 0, 0), (.aload_n 0, 1, 0, 0, 0), (.getfield 7, 3, 10, 0, 0), (.sipush 289, 3, 0, 0, 289), (.iaload, 1, 0, 0, 0)] (pc1 := 31) (lo1 := [some (.ref 47), some (.int s), some (.int x), some (.int (nI k))]) (st1 := [.int (μ.1 48 (289 : Int32).toNatClampNeg), .int (nI k)]) (μ1 := μ) (vc := vp_in 289 620 ∧ True) rfl (by decide +kernel) rfl ⟨(by unfold vp_in; decide), trivial⟩ ?_
    rw [show (289 : Int32).toNatClampNeg = 289 from by decide, hM, lr_gl hG]
    refine pm_icmp_ge (off := 39) 70 (by decide +kernel) (by decide) (fun (h31 : (nI (lr_n g 289)) ≤ (nI k)) => ?_) (fun (h9 : ¬ ((nI (lr_n g 289)) ≤ (nI k))) => absurd (nI_le (by omega) (by omega)) h9)
    refine pm_bl [(.iload_n 2, 1, 2, 0, 0)] (pc1 := 71) (lo1 := [some (.ref 47), some (.int s), some (.int x), some (.int (nI k))]) (st1 := [.int x]) (μ1 := μ) (vc := True) rfl (by decide +kernel) rfl trivial ?_
    exact pm_iret (ty := .int) rfl rfl (by decide) (by decide) (by decide +kernel) (⟨by rw [he, ← hk]; rfl, rfl⟩)
  | succ n ih =>
    intro k x hk he
    refine pm_bl [(.iload_n 3, 1, 3, 0, 0), (.aload_n 0, 1, 0, 0, 0), (.getfield 7, 3, 10, 0, 0), (.sipush 289, 3, 0, 0, 289), (.iaload, 1, 0, 0, 0)] (pc1 := 31) (lo1 := [some (.ref 47), some (.int s), some (.int x), some (.int (nI k))]) (st1 := [.int (μ.1 48 (289 : Int32).toNatClampNeg), .int (nI k)]) (μ1 := μ) (vc := vp_in 289 620 ∧ True) rfl (by decide +kernel) rfl ⟨(by unfold vp_in; decide), trivial⟩ ?_
    rw [show (289 : Int32).toNatClampNeg = 289 from by decide, hM, lr_gl hG]
    refine pm_icmp_ge (off := 39) 70 (by decide +kernel) (by decide) (fun (h9 : (nI (lr_n g 289)) ≤ (nI k)) => absurd h9 (nI_ge (by omega) (by omega))) (fun (h31 : ¬ ((nI (lr_n g 289)) ≤ (nI k))) => ?_)
    refine pm_bl [(.aload_n 0, 1, 0, 0, 0), (.getfield 35, 3, 10, 7, 0)] (pc1 := 38) (lo1 := [some (.ref 47), some (.int s), some (.int x), some (.int (nI k))]) (st1 := [.int (μ.1 47 7)]) (μ1 := μ) (vc := True) rfl (by decide +kernel) rfl trivial ?_
    rw [ht]
    refine pm_if_ne (off := 32) 70 (by decide +kernel) (by decide) (fun h9 => absurd h9 (by decide)) (fun _ => ?_)
    refine pm_bl [(.iload_n 2, 1, 2, 0, 0), (.aload_n 0, 1, 0, 0, 0), (.getfield 7, 3, 10, 0, 0), (.iload_n 3, 1, 3, 0, 0), (.bipush 6, 2, 0, 0, 6)] (pc1 := 49) (lo1 := [some (.ref 47), some (.int s), some (.int x), some (.int (nI k))]) (st1 := [.int 6, .int (nI k), .ref 48, .int x]) (μ1 := μ) (vc := True) rfl (by decide +kernel) rfl trivial ?_
    refine pm_callS2 mi_X10_at (ix := 127) (kc2 := 0) (ks2 := 0) (As := [.int (nI k), .int 6]) (rest := [.ref 48, .int x]) (c_X10_at (k := k) (c := 6) (n := 296 + 11 * k) μ (by omega)) cal_X10_at lk10_127 (by decide +kernel) rfl (by decide +kernel) rfl rfl (Nat.le_of_ble_eq_true rfl) (by decide) (by decide) (fun _ _ h9 => h9.elim) ?_
    rintro _ _ ⟨rfl, h9⟩; rw [h9]; clear h9
    show pm_V _ _ _ _ 52 _ [.int (nI (296 + 11 * k)), .ref 48, .int x] _
    refine pm_bl [(.iaload, 1, 0, 0, 0)] (pc1 := 53) (lo1 := [some (.ref 47), some (.int s), some (.int x), some (.int (nI k))]) (st1 := [.int (μ.1 48 (nI (296 + 11 * k)).toNatClampNeg), .int x]) (μ1 := μ) (vc := vp_in (nI (296 + 11 * k)) 620 ∧ True) rfl (by decide +kernel) rfl ⟨(vp_in_nI (by omega) (by omega)), trivial⟩ ?_
    first | rw [nI_clamp (n := 296 + 11 * k) (by omega), hM] | rw [hM]
    refine pm_bl [(.iload_n 1, 1, 1, 0, 0)] (pc1 := 54) (lo1 := [some (.ref 47), some (.int s), some (.int x), some (.int (nI k))]) (st1 := [.int s, .int (g (296 + 11 * k)), .int x]) (μ1 := μ) (vc := True) rfl (by decide +kernel) rfl trivial ?_
    refine pm_icmp_ne (off := 7) 61 (by decide +kernel) (by decide) (fun (h54 : ¬ (g (296 + 11 * k)) = s) => ?_) (fun (h54 : (g (296 + 11 * k)) = s) => ?_)
    · refine pm_bl [(.iconst 0, 1, 0, 0, 0), (.iadd, 1, 0, 0, 0), (.istore_n 2, 1, 2, 0, 0), (.iinc 3 1, 3, 3, 0, 1), (.goto (-45), 3, 22, 0, 0)] (pc1 := 22) (lo1 := [some (.ref 47), some (.int s), some (.int (x + 0)), some (.int ((nI k) + 1))]) (st1 := []) (μ1 := μ) (vc := True) rfl (by decide +kernel) rfl trivial ?_
      rw [nI_1]; exact ih (k + 1) _ (by omega) (by rw [he, lr_sum]; first | (rw [decide_eq_true (show g (296 + 11 * k) = s by assumption)]; rfl) | (rw [decide_eq_false (show ¬ g (296 + 11 * k) = s by assumption)]; rfl))
    · refine pm_bl [(.iconst 1, 1, 0, 0, 1), (.goto 4, 3, 62, 0, 0), (.iadd, 1, 0, 0, 0), (.istore_n 2, 1, 2, 0, 0), (.iinc 3 1, 3, 3, 0, 1), (.goto (-45), 3, 22, 0, 0)] (pc1 := 22) (lo1 := [some (.ref 47), some (.int s), some (.int (x + 1)), some (.int ((nI k) + 1))]) (st1 := []) (μ1 := μ) (vc := True) rfl (by decide +kernel) rfl trivial ?_
      rw [nI_1]; exact ih (k + 1) _ (by omega) (by rw [he, lr_sum]; first | (rw [decide_eq_true (show g (296 + 11 * k) = s by assumption)]; rfl) | (rw [decide_eq_false (show ¬ g (296 + 11 * k) = s by assumption)]; rfl))
set_option maxHeartbeats 4000000 in
set_option maxRecDepth 100000 in
theorem c_X10_returned_no {g : Nat → Int32} {s : Int32} (μ : pm_Mm) (hM : μ.1 48 = g) (hG : lr_G g) (hl : lr_in s 1 4 = false) : pm_CT mi_X10_returned [.ref 47, .int s] μ (fun v μ2 => v = some (.int 0) ∧ μ2 = pm_set μ 47 7 1) pm_NX := by
  refine pm_CT_of (lo := [some (.ref 47), some (.int s), none, none]) (by decide +kernel) rfl rfl (by intro v hv; simp at hv; rcases hv with rfl | rfl <;> rfl) (Nat.le_of_ble_eq_true rfl) rfl ?_
  have hm1 := lr_mh hG; have hm2 := lr_mw hG; have hm3 := lr_mp hG; have hm4 := lr_mr hG; have hm5 := lr_ma hG; have hm6 := lr_ml hG
  refine pm_bl [(.aload_n 0, 1, 0, 0, 0), (.iload_n 1, 1, 1, 0, 0), (.iconst 1, 1, 0, 0, 1), (.iconst 4, 1, 0, 0, 4)] (pc1 := 4) (lo1 := [some (.ref 47), some (.int s), none, none]) (st1 := [.int 4, .int 1, .int s, .ref 47]) (μ1 := μ) (vc := True) rfl (by decide +kernel) rfl trivial ?_
  refine pm_callS2 mi_X10_in (ix := 45) (kc2 := 0) (ks2 := 0) (As := [.int s, .int 1, .int 4]) (rest := [.ref 47]) (c_X10_in s 1 4 μ) cal_X10_in lk10_45 (by decide +kernel) rfl (by decide +kernel) rfl rfl (Nat.le_of_ble_eq_true rfl) (by decide) (by decide) (fun _ _ h9 => h9.elim) ?_
  rintro _ _ ⟨rfl, h9⟩; rw [h9]; clear h9
  show pm_V _ _ _ _ 7 _ [.int (lr_b (lr_in s 1 4)), .ref 47] _
  refine pm_ifb_eq (off := 7) 14 (by decide +kernel) (by decide) (fun (h7 : (lr_in s 1 4) = false) => ?_) (fun (h9 : (lr_in s 1 4) = true) => absurd (hl.symm.trans h9) (by decide))
  refine pm_bl [(.iconst 1, 1, 0, 0, 1), (.putfield 35, 3, 10, 7, 0), (.iconst 0, 1, 0, 0, 0), (.istore_n 2, 1, 2, 0, 0), (.iconst 0, 1, 0, 0, 0), (.istore_n 3, 1, 3, 0, 0), (.iload_n 3, 1, 3, 0, 0), (.aload_n 0, 1, 0, 0, 0), (.getfield 7, 3, 10, 0, 0), (.sipush 289, 3, 0, 0, 289), (.iaload, 1, 0, 0, 0)] (pc1 := 31) (lo1 := [some (.ref 47), some (.int s), some (.int 0), some (.int 0)]) (st1 := [.int ((pm_set μ 47 7 1).1 48 (289 : Int32).toNatClampNeg), .int 0]) (μ1 := pm_set μ 47 7 1) (vc := vp_in 289 620 ∧ True) rfl (by decide +kernel) rfl ⟨(by unfold vp_in; decide), trivial⟩ ?_
  try rw [show (289 : Int32).toNatClampNeg = 289 from by decide]
  rw [show (pm_set μ 47 7 1).1 48 289 = μ.1 48 289 from by rw [pm_set_miss] <;> omega]
  rw [hM, lr_gl hG]
  refine pm_icmp_ge (off := 39) 70 (by decide +kernel) (by decide) (fun (h31 : (nI (lr_n g 289)) ≤ 0) => ?_) (fun (h31 : ¬ ((nI (lr_n g 289)) ≤ 0)) => ?_)
  · refine pm_bl [(.iload_n 2, 1, 2, 0, 0)] (pc1 := 71) (lo1 := [some (.ref 47), some (.int s), some (.int 0), some (.int 0)]) (st1 := [.int 0]) (μ1 := pm_set μ 47 7 1) (vc := True) rfl (by decide +kernel) rfl trivial ?_
    exact pm_iret (ty := .int) rfl rfl (by decide) (by decide) (by decide +kernel) (⟨rfl, rfl⟩)
  · refine pm_bl [(.aload_n 0, 1, 0, 0, 0), (.getfield 35, 3, 10, 7, 0)] (pc1 := 38) (lo1 := [some (.ref 47), some (.int s), some (.int 0), some (.int 0)]) (st1 := [.int ((pm_set μ 47 7 1).1 47 7)]) (μ1 := pm_set μ 47 7 1) (vc := True) rfl (by decide +kernel) rfl trivial ?_
    rw [show (pm_set μ 47 7 1).1 47 7 = 1 from by rw [pm_set_hit] <;> omega]
    refine pm_if_ne (off := 32) 70 (by decide +kernel) (by decide) (fun _ => ?_) (fun h9 => absurd h9 (by decide))
    refine pm_bl [(.iload_n 2, 1, 2, 0, 0)] (pc1 := 71) (lo1 := [some (.ref 47), some (.int s), some (.int 0), some (.int 0)]) (st1 := [.int 0]) (μ1 := pm_set μ 47 7 1) (vc := True) rfl (by decide +kernel) rfl trivial ?_
    exact pm_iret (ty := .int) rfl rfl (by decide) (by decide) (by decide +kernel) (⟨rfl, rfl⟩)
set_option maxHeartbeats 4000000 in
set_option maxRecDepth 100000 in
theorem c_X10_returned {g : Nat → Int32} {s : Int32} (μ : pm_Mm) (hM : μ.1 48 = g) (hG : lr_G g) (hl : lr_in s 1 4 = true) : pm_CT mi_X10_returned [.ref 47, .int s] μ (fun v μ2 => v = some (.int (lr_sum (fun i => lr_b (decide (g (296 + 11 * i) = s))) (lr_n g 289))) ∧ μ2 = pm_set μ 47 7 0) pm_NX := by
  refine pm_CT_of (lo := [some (.ref 47), some (.int s), none, none]) (by decide +kernel) rfl rfl (by intro v hv; simp at hv; rcases hv with rfl | rfl <;> rfl) (Nat.le_of_ble_eq_true rfl) rfl ?_
  have hm1 := lr_mh hG; have hm2 := lr_mw hG; have hm3 := lr_mp hG; have hm4 := lr_mr hG; have hm5 := lr_ma hG; have hm6 := lr_ml hG
  refine pm_bl [(.aload_n 0, 1, 0, 0, 0), (.iload_n 1, 1, 1, 0, 0), (.iconst 1, 1, 0, 0, 1), (.iconst 4, 1, 0, 0, 4)] (pc1 := 4) (lo1 := [some (.ref 47), some (.int s), none, none]) (st1 := [.int 4, .int 1, .int s, .ref 47]) (μ1 := μ) (vc := True) rfl (by decide +kernel) rfl trivial ?_
  refine pm_callS2 mi_X10_in (ix := 45) (kc2 := 0) (ks2 := 0) (As := [.int s, .int 1, .int 4]) (rest := [.ref 47]) (c_X10_in s 1 4 μ) cal_X10_in lk10_45 (by decide +kernel) rfl (by decide +kernel) rfl rfl (Nat.le_of_ble_eq_true rfl) (by decide) (by decide) (fun _ _ h9 => h9.elim) ?_
  rintro _ _ ⟨rfl, h9⟩; rw [h9]; clear h9
  show pm_V _ _ _ _ 7 _ [.int (lr_b (lr_in s 1 4)), .ref 47] _
  refine pm_ifb_eq (off := 7) 14 (by decide +kernel) (by decide) (fun (h9 : (lr_in s 1 4) = false) => absurd (hl.symm.trans h9) (by decide)) (fun (h7 : (lr_in s 1 4) = true) => ?_)
  refine pm_bl [(.iconst 0, 1, 0, 0, 0), (.goto 4, 3, 15, 0, 0), (.putfield 35, 3, 10, 7, 0), (.iconst 0, 1, 0, 0, 0), (.istore_n 2, 1, 2, 0, 0), (.iconst 0, 1, 0, 0, 0), (.istore_n 3, 1, 3, 0, 0)] (pc1 := 22) (lo1 := [some (.ref 47), some (.int s), some (.int 0), some (.int 0)]) (st1 := []) (μ1 := pm_set μ 47 7 0) (vc := True) rfl (by decide +kernel) rfl trivial ?_
  exact l_X10_returned s _ (by rw [pm_set_off (by decide)]; exact hM) hG pm_set_hit (lr_n g 289) 0 0 (Nat.zero_add _) rfl
set_option maxHeartbeats 4000000 in
set_option maxRecDepth 100000 in
theorem l_X10_delivered {g : Nat → Int32} (s : Int32) (hs : ¬ s < 0) (μ : pm_Mm) (hM : μ.1 48 = g) (hG : lr_G g) : ∀ n k : Nat, k + n = lr_n g 289 → (lr_fst (fun i => decide (g (300 + 11 * i) = s)) (lr_n g 289) 0) = lr_fst (fun i => decide (g (300 + 11 * i) = s)) n k → pm_V mi_X10_delivered ((fun v μ2 => v = some (.int (if (lr_fst (fun i => decide (g (300 + 11 * i) = s)) (lr_n g 289) 0) = -1 then 0 else (lr_fst (fun i => decide (g (300 + 11 * i) = s)) (lr_n g 289) 0))) ∧ μ2 = if (lr_fst (fun i => decide (g (300 + 11 * i) = s)) (lr_n g 289) 0) = -1 then pm_set μ 47 7 1 else μ), pm_NX, fun _ _ _ => True) 0 0 7 [some (.ref 47), some (.int s), some (.int (nI k))] [] μ := by
  have hm1 := lr_mh hG; have hm2 := lr_mw hG; have hm3 := lr_mp hG; have hm4 := lr_mr hG; have hm5 := lr_ma hG; have hm6 := lr_ml hG
  intro n
  induction n with
  | zero =>
    intro k hk he
    refine pm_bl [(.iload_n 2, 1, 2, 0, 0), (.aload_n 0, 1, 0, 0, 0), (.getfield 7, 3, 10, 0, 0), (.sipush 289, 3, 0, 0, 289), (.iaload, 1, 0, 0, 0)] (pc1 := 16) (lo1 := [some (.ref 47), some (.int s), some (.int (nI k))]) (st1 := [.int (μ.1 48 (289 : Int32).toNatClampNeg), .int (nI k)]) (μ1 := μ) (vc := vp_in 289 620 ∧ True) rfl (by decide +kernel) rfl ⟨(by unfold vp_in; decide), trivial⟩ ?_
    rw [show (289 : Int32).toNatClampNeg = 289 from by decide, hM, lr_gl hG]
    refine pm_icmp_ge (off := 30) 46 (by decide +kernel) (by decide) (fun (h16 : (nI (lr_n g 289)) ≤ (nI k)) => ?_) (fun (h9 : ¬ ((nI (lr_n g 289)) ≤ (nI k))) => absurd (nI_le (by omega) (by omega)) h9)
    refine pm_bl [(.aload_n 0, 1, 0, 0, 0), (.iconst 1, 1, 0, 0, 1)] (pc1 := 48) (lo1 := [some (.ref 47), some (.int s), some (.int (nI k))]) (st1 := [.int 1, .ref 47]) (μ1 := μ) (vc := True) rfl (by decide +kernel) rfl trivial ?_
    refine pm_callV2 mi_X10_fails (ix := 41) (b := 47) (ci := 10) (kc2 := 0) (ks2 := 0) (As := [.int 1]) (rest := []) (c_X10_fails 1 μ) cal_X10_fails lk10_41 (by decide +kernel) rfl (by decide +kernel) rfl rfl rfl rfl (Nat.le_of_ble_eq_true rfl) (by decide) (by decide) (fun _ _ h9 => h9.elim) ?_
    rintro _ _ ⟨rfl, h9⟩; rw [h9]; clear h9
    show pm_V _ _ _ _ 51 _ [.int 0] _
    exact pm_iret (ty := .int) rfl rfl (by decide) (by decide) (by decide +kernel) (⟨by rw [he]; rfl, by rw [he]; rfl⟩)
  | succ n ih =>
    intro k hk he
    refine pm_bl [(.iload_n 2, 1, 2, 0, 0), (.aload_n 0, 1, 0, 0, 0), (.getfield 7, 3, 10, 0, 0), (.sipush 289, 3, 0, 0, 289), (.iaload, 1, 0, 0, 0)] (pc1 := 16) (lo1 := [some (.ref 47), some (.int s), some (.int (nI k))]) (st1 := [.int (μ.1 48 (289 : Int32).toNatClampNeg), .int (nI k)]) (μ1 := μ) (vc := vp_in 289 620 ∧ True) rfl (by decide +kernel) rfl ⟨(by unfold vp_in; decide), trivial⟩ ?_
    rw [show (289 : Int32).toNatClampNeg = 289 from by decide, hM, lr_gl hG]
    refine pm_icmp_ge (off := 30) 46 (by decide +kernel) (by decide) (fun (h9 : (nI (lr_n g 289)) ≤ (nI k)) => absurd h9 (nI_ge (by omega) (by omega))) (fun (h16 : ¬ ((nI (lr_n g 289)) ≤ (nI k))) => ?_)
    refine pm_bl [(.iload_n 1, 1, 1, 0, 0)] (pc1 := 20) (lo1 := [some (.ref 47), some (.int s), some (.int (nI k))]) (st1 := [.int s]) (μ1 := μ) (vc := True) rfl (by decide +kernel) rfl trivial ?_
    refine pm_if_lt (off := 26) 46 (by decide +kernel) (by decide) (fun (h9 : s < 0) => absurd h9 hs) (fun (h20 : ¬ (s < 0)) => ?_)
    refine pm_bl [(.aload_n 0, 1, 0, 0, 0), (.getfield 7, 3, 10, 0, 0), (.iload_n 2, 1, 2, 0, 0), (.bipush 10, 2, 0, 0, 10)] (pc1 := 30) (lo1 := [some (.ref 47), some (.int s), some (.int (nI k))]) (st1 := [.int 10, .int (nI k), .ref 48]) (μ1 := μ) (vc := True) rfl (by decide +kernel) rfl trivial ?_
    refine pm_callS2 mi_X10_at (ix := 127) (kc2 := 0) (ks2 := 0) (As := [.int (nI k), .int 10]) (rest := [.ref 48]) (c_X10_at (k := k) (c := 10) (n := 300 + 11 * k) μ (by omega)) cal_X10_at lk10_127 (by decide +kernel) rfl (by decide +kernel) rfl rfl (Nat.le_of_ble_eq_true rfl) (by decide) (by decide) (fun _ _ h9 => h9.elim) ?_
    rintro _ _ ⟨rfl, h9⟩; rw [h9]; clear h9
    show pm_V _ _ _ _ 33 _ [.int (nI (300 + 11 * k)), .ref 48] _
    refine pm_bl [(.iaload, 1, 0, 0, 0)] (pc1 := 34) (lo1 := [some (.ref 47), some (.int s), some (.int (nI k))]) (st1 := [.int (μ.1 48 (nI (300 + 11 * k)).toNatClampNeg)]) (μ1 := μ) (vc := vp_in (nI (300 + 11 * k)) 620 ∧ True) rfl (by decide +kernel) rfl ⟨(vp_in_nI (by omega) (by omega)), trivial⟩ ?_
    first | rw [nI_clamp (n := 300 + 11 * k) (by omega), hM] | rw [hM]
    refine pm_bl [(.iload_n 1, 1, 1, 0, 0)] (pc1 := 35) (lo1 := [some (.ref 47), some (.int s), some (.int (nI k))]) (st1 := [.int s, .int (g (300 + 11 * k))]) (μ1 := μ) (vc := True) rfl (by decide +kernel) rfl trivial ?_
    refine pm_icmp_ne (off := 5) 40 (by decide +kernel) (by decide) (fun (h35 : ¬ (g (300 + 11 * k)) = s) => ?_) (fun (h35 : (g (300 + 11 * k)) = s) => ?_)
    · refine pm_bl [(.iinc 2 1, 3, 2, 0, 1), (.goto (-36), 3, 7, 0, 0)] (pc1 := 7) (lo1 := [some (.ref 47), some (.int s), some (.int ((nI k) + 1))]) (st1 := []) (μ1 := μ) (vc := True) rfl (by decide +kernel) rfl trivial ?_
      rw [nI_1]; exact ih (k + 1) (by omega) (by rw [he]; simp only [lr_fst]; rw [if_neg (by simp_all)])
    · refine pm_bl [(.iload_n 2, 1, 2, 0, 0)] (pc1 := 39) (lo1 := [some (.ref 47), some (.int s), some (.int (nI k))]) (st1 := [.int (nI k)]) (μ1 := μ) (vc := True) rfl (by decide +kernel) rfl trivial ?_
      exact pm_iret (ty := .int) rfl rfl (by decide) (by decide) (by decide +kernel) (⟨by rw [show (lr_fst (fun i => decide (g (300 + 11 * i) = s)) (lr_n g 289) 0) = nI k from by rw [he]; simp only [lr_fst]; rw [if_pos (by simp_all)], if_neg (lr_ne1 (by omega))], by rw [show (lr_fst (fun i => decide (g (300 + 11 * i) = s)) (lr_n g 289) 0) = nI k from by rw [he]; simp only [lr_fst]; rw [if_pos (by simp_all)], if_neg (lr_ne1 (by omega))]⟩)
set_option maxHeartbeats 4000000 in
set_option maxRecDepth 100000 in
theorem c_X10_delivered {g : Nat → Int32} {s : Int32} (μ : pm_Mm) (hM : μ.1 48 = g) (hG : lr_G g) (hs : ¬ s < 0) : pm_CT mi_X10_delivered [.ref 47, .int s] μ (fun v μ2 => v = some (.int (if (lr_fst (fun i => decide (g (300 + 11 * i) = s)) (lr_n g 289) 0) = -1 then 0 else (lr_fst (fun i => decide (g (300 + 11 * i) = s)) (lr_n g 289) 0))) ∧ μ2 = if (lr_fst (fun i => decide (g (300 + 11 * i) = s)) (lr_n g 289) 0) = -1 then pm_set (pm_set μ 47 7 0) 47 7 1 else pm_set μ 47 7 0) pm_NX := by
  refine pm_CT_of (lo := [some (.ref 47), some (.int s), none]) (by decide +kernel) rfl rfl (by intro v hv; simp at hv; rcases hv with rfl | rfl <;> rfl) (Nat.le_of_ble_eq_true rfl) rfl ?_
  have hm1 := lr_mh hG; have hm2 := lr_mw hG; have hm3 := lr_mp hG; have hm4 := lr_mr hG; have hm5 := lr_ma hG; have hm6 := lr_ml hG
  refine pm_bl [(.aload_n 0, 1, 0, 0, 0), (.iconst 0, 1, 0, 0, 0), (.putfield 35, 3, 10, 7, 0), (.iconst 0, 1, 0, 0, 0), (.istore_n 2, 1, 2, 0, 0)] (pc1 := 7) (lo1 := [some (.ref 47), some (.int s), some (.int 0)]) (st1 := []) (μ1 := pm_set μ 47 7 0) (vc := True) rfl (by decide +kernel) rfl trivial ?_
  exact l_X10_delivered s hs _ (by rw [pm_set_off (by decide)]; exact hM) hG (lr_n g 289) 0 (Nat.zero_add _) rfl
