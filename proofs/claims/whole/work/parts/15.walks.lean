/-! walks: which serves a house, stops -/
set_option maxHeartbeats 4000000 in
set_option maxRecDepth 100000 in
theorem c_X8_isOnSide {g : Nat → Int32} {w : Nat} (nu : Int32) (μ : pm_Mm) (hR : lr_Rel μ.1 1 g) (hG : lr_G g) (hw : w < lr_n g 116) : pm_CT mi_X8_isOnSide [.ref 10, .int (nI w), .int nu] μ (fun v μ2 => v = some (.int (lr_b (decide (g (118 + 5 * w) = 2) || decide (g (118 + 5 * w) = lr_par nu)))) ∧ μ2 = μ) pm_NX := by
  refine pm_CT_of (lo := [some (.ref 10), some (.int (nI w)), some (.int nu), none]) (by decide +kernel) rfl rfl (by intro v hv; simp at hv; rcases hv with rfl | rfl | rfl <;> rfl) (Nat.le_of_ble_eq_true rfl) rfl ?_
  have hm1 := lr_mh hG; have hm2 := lr_mw hG; have hm3 := lr_mp hG; have hm4 := lr_mr hG; have hm5 := lr_ma hG; have hm6 := lr_ml hG
  refine pm_bl [(.iload_n 2, 1, 2, 0, 0), (.iconst 2, 1, 0, 0, 2), (.irem, 1, 0, 0, 0)] (pc1 := 3) (lo1 := [some (.ref 10), some (.int (nI w)), some (.int nu), none]) (st1 := [.int (nu - nu / 2 * 2)]) (μ1 := μ) (vc := (¬ 2 = 0) ∧ True) rfl (by decide +kernel) rfl ⟨(by decide), trivial⟩ ?_
  refine pm_if_ne (off := 7) 10 (by decide +kernel) (by decide) (fun (h3 : ¬ (nu - nu / 2 * 2) = 0) => ?_) (fun (h3 : (nu - nu / 2 * 2) = 0) => ?_)
  · refine pm_bl [(.iconst 1, 1, 0, 0, 1), (.istore_n 3, 1, 3, 0, 0), (.aload_n 0, 1, 0, 0, 0), (.getfield 19, 3, 8, 2, 0), (.iload_n 1, 1, 1, 0, 0), (.iaload, 1, 0, 0, 0), (.iconst 2, 1, 0, 0, 2)] (pc1 := 19) (lo1 := [some (.ref 10), some (.int (nI w)), some (.int nu), some (.int 1)]) (st1 := [.int 2, .int (μ.1 12 (nI w).toNatClampNeg)]) (μ1 := μ) (vc := vp_in (nI w) 10 ∧ True) rfl (by decide +kernel) rfl ⟨(vp_in_nI (by omega) (by omega)), trivial⟩ ?_
    first | rw [nI_clamp (n := w) (by omega), lr_rwsd hR (i := w) hw] | rw [lr_rwsd hR (i := w) hw]
    refine pm_icmp_eq (off := 13) 32 (by decide +kernel) (by decide) (fun (h19 : (g (118 + 5 * w)) = 2) => ?_) (fun (h19 : ¬ ((g (118 + 5 * w)) = 2)) => ?_)
    · refine pm_bl [(.iconst 1, 1, 0, 0, 1), (.goto 4, 3, 37, 0, 0)] (pc1 := 37) (lo1 := [some (.ref 10), some (.int (nI w)), some (.int nu), some (.int 1)]) (st1 := [.int 1]) (μ1 := μ) (vc := True) rfl (by decide +kernel) rfl trivial ?_
      exact pm_iret (ty := .boolean) rfl (rfl) (by decide) (by decide) (by decide +kernel) (⟨by congr 2; simp_all [lr_par, lr_b], rfl⟩)
    · refine pm_bl [(.aload_n 0, 1, 0, 0, 0), (.getfield 19, 3, 8, 2, 0), (.iload_n 1, 1, 1, 0, 0), (.iaload, 1, 0, 0, 0), (.iload_n 3, 1, 3, 0, 0)] (pc1 := 29) (lo1 := [some (.ref 10), some (.int (nI w)), some (.int nu), some (.int 1)]) (st1 := [.int 1, .int (μ.1 12 (nI w).toNatClampNeg)]) (μ1 := μ) (vc := vp_in (nI w) 10 ∧ True) rfl (by decide +kernel) rfl ⟨(vp_in_nI (by omega) (by omega)), trivial⟩ ?_
      first | rw [nI_clamp (n := w) (by omega), lr_rwsd hR (i := w) hw] | rw [lr_rwsd hR (i := w) hw]
      refine pm_icmp_ne (off := 7) 36 (by decide +kernel) (by decide) (fun (h29 : ¬ (g (118 + 5 * w)) = 1) => ?_) (fun (h29 : (g (118 + 5 * w)) = 1) => ?_)
      · refine pm_bl [(.iconst 0, 1, 0, 0, 0)] (pc1 := 37) (lo1 := [some (.ref 10), some (.int (nI w)), some (.int nu), some (.int 1)]) (st1 := [.int 0]) (μ1 := μ) (vc := True) rfl (by decide +kernel) rfl trivial ?_
        exact pm_iret (ty := .boolean) rfl (rfl) (by decide) (by decide) (by decide +kernel) (⟨by congr 2; simp_all [lr_par, lr_b], rfl⟩)
      · refine pm_bl [(.iconst 1, 1, 0, 0, 1), (.goto 4, 3, 37, 0, 0)] (pc1 := 37) (lo1 := [some (.ref 10), some (.int (nI w)), some (.int nu), some (.int 1)]) (st1 := [.int 1]) (μ1 := μ) (vc := True) rfl (by decide +kernel) rfl trivial ?_
        exact pm_iret (ty := .boolean) rfl (rfl) (by decide) (by decide) (by decide +kernel) (⟨by congr 2; simp_all [lr_par, lr_b], rfl⟩)
  · refine pm_bl [(.iconst 0, 1, 0, 0, 0), (.goto 4, 3, 11, 0, 0), (.istore_n 3, 1, 3, 0, 0), (.aload_n 0, 1, 0, 0, 0), (.getfield 19, 3, 8, 2, 0), (.iload_n 1, 1, 1, 0, 0), (.iaload, 1, 0, 0, 0), (.iconst 2, 1, 0, 0, 2)] (pc1 := 19) (lo1 := [some (.ref 10), some (.int (nI w)), some (.int nu), some (.int 0)]) (st1 := [.int 2, .int (μ.1 12 (nI w).toNatClampNeg)]) (μ1 := μ) (vc := vp_in (nI w) 10 ∧ True) rfl (by decide +kernel) rfl ⟨(vp_in_nI (by omega) (by omega)), trivial⟩ ?_
    first | rw [nI_clamp (n := w) (by omega), lr_rwsd hR (i := w) hw] | rw [lr_rwsd hR (i := w) hw]
    refine pm_icmp_eq (off := 13) 32 (by decide +kernel) (by decide) (fun (h19 : (g (118 + 5 * w)) = 2) => ?_) (fun (h19 : ¬ ((g (118 + 5 * w)) = 2)) => ?_)
    · refine pm_bl [(.iconst 1, 1, 0, 0, 1), (.goto 4, 3, 37, 0, 0)] (pc1 := 37) (lo1 := [some (.ref 10), some (.int (nI w)), some (.int nu), some (.int 0)]) (st1 := [.int 1]) (μ1 := μ) (vc := True) rfl (by decide +kernel) rfl trivial ?_
      exact pm_iret (ty := .boolean) rfl (rfl) (by decide) (by decide) (by decide +kernel) (⟨by congr 2; simp_all [lr_par, lr_b], rfl⟩)
    · refine pm_bl [(.aload_n 0, 1, 0, 0, 0), (.getfield 19, 3, 8, 2, 0), (.iload_n 1, 1, 1, 0, 0), (.iaload, 1, 0, 0, 0), (.iload_n 3, 1, 3, 0, 0)] (pc1 := 29) (lo1 := [some (.ref 10), some (.int (nI w)), some (.int nu), some (.int 0)]) (st1 := [.int 0, .int (μ.1 12 (nI w).toNatClampNeg)]) (μ1 := μ) (vc := vp_in (nI w) 10 ∧ True) rfl (by decide +kernel) rfl ⟨(vp_in_nI (by omega) (by omega)), trivial⟩ ?_
      first | rw [nI_clamp (n := w) (by omega), lr_rwsd hR (i := w) hw] | rw [lr_rwsd hR (i := w) hw]
      refine pm_icmp_ne (off := 7) 36 (by decide +kernel) (by decide) (fun (h29 : ¬ (g (118 + 5 * w)) = 0) => ?_) (fun (h29 : (g (118 + 5 * w)) = 0) => ?_)
      · refine pm_bl [(.iconst 0, 1, 0, 0, 0)] (pc1 := 37) (lo1 := [some (.ref 10), some (.int (nI w)), some (.int nu), some (.int 0)]) (st1 := [.int 0]) (μ1 := μ) (vc := True) rfl (by decide +kernel) rfl trivial ?_
        exact pm_iret (ty := .boolean) rfl (rfl) (by decide) (by decide) (by decide +kernel) (⟨by congr 2; simp_all [lr_par, lr_b], rfl⟩)
      · refine pm_bl [(.iconst 1, 1, 0, 0, 1), (.goto 4, 3, 37, 0, 0)] (pc1 := 37) (lo1 := [some (.ref 10), some (.int (nI w)), some (.int nu), some (.int 0)]) (st1 := [.int 1]) (μ1 := μ) (vc := True) rfl (by decide +kernel) rfl trivial ?_
        exact pm_iret (ty := .boolean) rfl (rfl) (by decide) (by decide) (by decide +kernel) (⟨by congr 2; simp_all [lr_par, lr_b], rfl⟩)
set_option maxHeartbeats 4000000 in
set_option maxRecDepth 100000 in
theorem c_X8_comesFirst {g : Nat → Int32} {w : Nat} (a b : Int32) (μ : pm_Mm) (hR : lr_Rel μ.1 1 g) (hG : lr_G g) (hw : w < lr_n g 116) : pm_CT mi_X8_comesFirst [.ref 10, .int (nI w), .int a, .int b] μ (fun v μ2 => v = some (.int (lr_b (lr_cf g (nI w) a b))) ∧ μ2 = μ) pm_NX := by
  refine pm_CT_of (lo := [some (.ref 10), some (.int (nI w)), some (.int a), some (.int b)]) (by decide +kernel) rfl rfl (by intro v hv; simp at hv; rcases hv with rfl | rfl | rfl | rfl <;> rfl) (Nat.le_of_ble_eq_true rfl) rfl ?_
  have hm1 := lr_mh hG; have hm2 := lr_mw hG; have hm3 := lr_mp hG; have hm4 := lr_mr hG; have hm5 := lr_ma hG; have hm6 := lr_ml hG
  refine pm_bl [(.aload_n 0, 1, 0, 0, 0), (.getfield 22, 3, 8, 3, 0), (.iload_n 1, 1, 1, 0, 0), (.iaload, 1, 0, 0, 0)] (pc1 := 6) (lo1 := [some (.ref 10), some (.int (nI w)), some (.int a), some (.int b)]) (st1 := [.int (μ.1 13 (nI w).toNatClampNeg)]) (μ1 := μ) (vc := vp_in (nI w) 10 ∧ True) rfl (by decide +kernel) rfl ⟨(vp_in_nI (by omega) (by omega)), trivial⟩ ?_
  first | rw [nI_clamp (n := w) (by omega), lr_rwdi hR (i := w) hw] | rw [lr_rwdi hR (i := w) hw]
  refine pm_if_ne (off := 16) 22 (by decide +kernel) (by decide) (fun (h6 : ¬ (g (119 + 5 * w)) = 0) => ?_) (fun (h6 : (g (119 + 5 * w)) = 0) => ?_)
  · refine pm_bl [(.iload_n 2, 1, 2, 0, 0), (.iload_n 3, 1, 3, 0, 0)] (pc1 := 24) (lo1 := [some (.ref 10), some (.int (nI w)), some (.int a), some (.int b)]) (st1 := [.int b, .int a]) (μ1 := μ) (vc := True) rfl (by decide +kernel) rfl trivial ?_
    refine pm_icmp_le (off := 7) 31 (by decide +kernel) (by decide) (fun (h24 : a ≤ b) => ?_) (fun (h24 : ¬ (a ≤ b)) => ?_)
    · refine pm_bl [(.iconst 0, 1, 0, 0, 0)] (pc1 := 32) (lo1 := [some (.ref 10), some (.int (nI w)), some (.int a), some (.int b)]) (st1 := [.int 0]) (μ1 := μ) (vc := True) rfl (by decide +kernel) rfl trivial ?_
      exact pm_iret (ty := .boolean) rfl (rfl) (by decide) (by decide) (by decide +kernel) (⟨by congr 2; simp_all [lr_cf, lr_b, nI_clamp (n := w) (by omega)], rfl⟩)
    · refine pm_bl [(.iconst 1, 1, 0, 0, 1), (.goto 4, 3, 32, 0, 0)] (pc1 := 32) (lo1 := [some (.ref 10), some (.int (nI w)), some (.int a), some (.int b)]) (st1 := [.int 1]) (μ1 := μ) (vc := True) rfl (by decide +kernel) rfl trivial ?_
      exact pm_iret (ty := .boolean) rfl (rfl) (by decide) (by decide) (by decide +kernel) (⟨by congr 2; simp_all [lr_cf, lr_b, nI_clamp (n := w) (by omega)], rfl⟩)
  · refine pm_bl [(.iload_n 2, 1, 2, 0, 0), (.iload_n 3, 1, 3, 0, 0)] (pc1 := 11) (lo1 := [some (.ref 10), some (.int (nI w)), some (.int a), some (.int b)]) (st1 := [.int b, .int a]) (μ1 := μ) (vc := True) rfl (by decide +kernel) rfl trivial ?_
    refine pm_icmp_ge (off := 7) 18 (by decide +kernel) (by decide) (fun (h11 : b ≤ a) => ?_) (fun (h11 : ¬ (b ≤ a)) => ?_)
    · refine pm_bl [(.iconst 0, 1, 0, 0, 0), (.goto 13, 3, 32, 0, 0)] (pc1 := 32) (lo1 := [some (.ref 10), some (.int (nI w)), some (.int a), some (.int b)]) (st1 := [.int 0]) (μ1 := μ) (vc := True) rfl (by decide +kernel) rfl trivial ?_
      exact pm_iret (ty := .boolean) rfl (rfl) (by decide) (by decide) (by decide +kernel) (⟨by congr 2; simp_all [lr_cf, lr_b, nI_clamp (n := w) (by omega)], rfl⟩)
    · refine pm_bl [(.iconst 1, 1, 0, 0, 1), (.goto 17, 3, 32, 0, 0)] (pc1 := 32) (lo1 := [some (.ref 10), some (.int (nI w)), some (.int a), some (.int b)]) (st1 := [.int 1]) (μ1 := μ) (vc := True) rfl (by decide +kernel) rfl trivial ?_
      exact pm_iret (ty := .boolean) rfl (rfl) (by decide) (by decide) (by decide +kernel) (⟨by congr 2; simp_all [lr_cf, lr_b, nI_clamp (n := w) (by omega)], rfl⟩)
set_option maxHeartbeats 4000000 in
set_option maxRecDepth 100000 in
theorem l_X8_lowestFor {g : Nat → Int32} (st nu : Int32) (μ : pm_Mm) (hR : lr_Rel μ.1 1 g) (hG : lr_G g) : ∀ n k : Nat, k + n = lr_n g 116 → lr_srv g st nu = lr_fst (lr_cs g st nu) n k → pm_V mi_X8_lowestFor ((fun v μ2 => v = some (.int (lr_srv g st nu)) ∧ μ2 = μ), pm_NX, fun _ _ _ => True) 0 0 2 [some (.ref 10), some (.int st), some (.int nu), some (.int (nI k))] [] μ := by
  have hm1 := lr_mh hG; have hm2 := lr_mw hG; have hm3 := lr_mp hG; have hm4 := lr_mr hG; have hm5 := lr_ma hG; have hm6 := lr_ml hG
  intro n
  induction n with
  | zero =>
    intro k hk he
    refine pm_bl [(.iload_n 3, 1, 3, 0, 0), (.aload_n 0, 1, 0, 0, 0), (.getfield 9, 3, 8, 0, 0)] (pc1 := 7) (lo1 := [some (.ref 10), some (.int st), some (.int nu), some (.int (nI k))]) (st1 := [.int (μ.1 10 0), .int (nI k)]) (μ1 := μ) (vc := True) rfl (by decide +kernel) rfl trivial ?_
    rw [lr_rNw hR, lr_gw hG]
    refine pm_icmp_ge (off := 49) 56 (by decide +kernel) (by decide) (fun (h7 : (nI (lr_n g 116)) ≤ (nI k)) => ?_) (fun (h9 : ¬ ((nI (lr_n g 116)) ≤ (nI k))) => absurd (nI_le (by omega) (by omega)) h9)
    refine pm_bl [(.iconst (-1), 1, 0, 0, (-1))] (pc1 := 57) (lo1 := [some (.ref 10), some (.int st), some (.int nu), some (.int (nI k))]) (st1 := [.int (-1)]) (μ1 := μ) (vc := True) rfl (by decide +kernel) rfl trivial ?_
    exact pm_iret (ty := .int) rfl rfl (by decide) (by decide) (by decide +kernel) (⟨by rw [he]; rfl, rfl⟩)
  | succ n ih =>
    intro k hk he
    refine pm_bl [(.iload_n 3, 1, 3, 0, 0), (.aload_n 0, 1, 0, 0, 0), (.getfield 9, 3, 8, 0, 0)] (pc1 := 7) (lo1 := [some (.ref 10), some (.int st), some (.int nu), some (.int (nI k))]) (st1 := [.int (μ.1 10 0), .int (nI k)]) (μ1 := μ) (vc := True) rfl (by decide +kernel) rfl trivial ?_
    rw [lr_rNw hR, lr_gw hG]
    refine pm_icmp_ge (off := 49) 56 (by decide +kernel) (by decide) (fun (h9 : (nI (lr_n g 116)) ≤ (nI k)) => absurd h9 (nI_ge (by omega) (by omega))) (fun (h7 : ¬ ((nI (lr_n g 116)) ≤ (nI k))) => ?_)
    refine pm_bl [(.aload_n 0, 1, 0, 0, 0), (.getfield 15, 3, 8, 1, 0), (.iload_n 3, 1, 3, 0, 0), (.iaload, 1, 0, 0, 0), (.iload_n 1, 1, 1, 0, 0)] (pc1 := 17) (lo1 := [some (.ref 10), some (.int st), some (.int nu), some (.int (nI k))]) (st1 := [.int st, .int (μ.1 11 (nI k).toNatClampNeg)]) (μ1 := μ) (vc := vp_in (nI k) 10 ∧ True) rfl (by decide +kernel) rfl ⟨(vp_in_nI (by omega) (by omega)), trivial⟩ ?_
    first | rw [nI_clamp (n := k) (by omega), lr_rwst hR (i := k) (by omega)] | rw [lr_rwst hR (i := k) (by omega)]
    refine pm_icmp_ne (off := 33) 50 (by decide +kernel) (by decide) (fun (h17 : ¬ (g (117 + 5 * k)) = st) => ?_) (fun (h17 : (g (117 + 5 * k)) = st) => ?_)
    · refine pm_bl [(.iinc 3 1, 3, 3, 0, 1), (.goto (-51), 3, 2, 0, 0)] (pc1 := 2) (lo1 := [some (.ref 10), some (.int st), some (.int nu), some (.int ((nI k) + 1))]) (st1 := []) (μ1 := μ) (vc := True) rfl (by decide +kernel) rfl trivial ?_
      rw [nI_1]; exact ih (k + 1) (by omega) (by rw [he]; simp only [lr_fst]; rw [if_neg (by simp_all [lr_cs])])
    · refine pm_bl [(.aload_n 0, 1, 0, 0, 0), (.iload_n 3, 1, 3, 0, 0), (.iload_n 2, 1, 2, 0, 0)] (pc1 := 23) (lo1 := [some (.ref 10), some (.int st), some (.int nu), some (.int (nI k))]) (st1 := [.int nu, .int (nI k), .ref 10]) (μ1 := μ) (vc := True) rfl (by decide +kernel) rfl trivial ?_
      refine pm_callV2 mi_X8_isOnSide (ix := 35) (b := 10) (ci := 8) (kc2 := 0) (ks2 := 0) (As := [.int (nI k), .int nu]) (rest := []) (c_X8_isOnSide (w := k) nu μ hR hG (by omega)) cal_X8_isOnSide lk8_35 (by decide +kernel) rfl (by decide +kernel) rfl rfl rfl rfl (Nat.le_of_ble_eq_true rfl) (by decide) (by decide) (fun _ _ h9 => h9.elim) ?_
      rintro _ _ ⟨rfl, h9⟩; rw [h9]; clear h9
      show pm_V _ _ _ _ 26 _ [.int (lr_b (decide (g (118 + 5 * k) = 2) || decide (g (118 + 5 * k) = lr_par nu)))] _
      refine pm_ifb_eq (off := 24) 50 (by decide +kernel) (by decide) (fun (h26 : (decide (g (118 + 5 * k) = 2) || decide (g (118 + 5 * k) = lr_par nu)) = false) => ?_) (fun (h26 : (decide (g (118 + 5 * k) = 2) || decide (g (118 + 5 * k) = lr_par nu)) = true) => ?_)
      · refine pm_bl [(.iinc 3 1, 3, 3, 0, 1), (.goto (-51), 3, 2, 0, 0)] (pc1 := 2) (lo1 := [some (.ref 10), some (.int st), some (.int nu), some (.int ((nI k) + 1))]) (st1 := []) (μ1 := μ) (vc := True) rfl (by decide +kernel) rfl trivial ?_
        rw [nI_1]; exact ih (k + 1) (by omega) (by rw [he]; simp only [lr_fst]; rw [if_neg (by simp_all [lr_cs])])
      · refine pm_bl [(.iload_n 2, 1, 2, 0, 0), (.aload_n 0, 1, 0, 0, 0), (.getfield 25, 3, 8, 4, 0), (.iload_n 3, 1, 3, 0, 0), (.iaload, 1, 0, 0, 0), (.aload_n 0, 1, 0, 0, 0), (.getfield 28, 3, 8, 5, 0), (.iload_n 3, 1, 3, 0, 0), (.iaload, 1, 0, 0, 0)] (pc1 := 42) (lo1 := [some (.ref 10), some (.int st), some (.int nu), some (.int (nI k))]) (st1 := [.int (μ.1 15 (nI k).toNatClampNeg), .int (μ.1 14 (nI k).toNatClampNeg), .int nu]) (μ1 := μ) (vc := vp_in (nI k) 10 ∧ vp_in (nI k) 10 ∧ True) rfl (by decide +kernel) rfl ⟨(vp_in_nI (by omega) (by omega)), (vp_in_nI (by omega) (by omega)), trivial⟩ ?_
        first | rw [nI_clamp (n := k) (by omega), lr_rwfi hR (i := k) (by omega)] | rw [lr_rwfi hR (i := k) (by omega)]
        first | rw [nI_clamp (n := k) (by omega), lr_rwla hR (i := k) (by omega)] | rw [lr_rwla hR (i := k) (by omega)]
        refine pm_callSN2 mi_X9_isBetween (ix := 39) (host := RX9) (kc2 := 0) (ks2 := 0) (As := [.int nu, .int (g (120 + 5 * k)), .int (g (121 + 5 * k))]) (rest := []) (c_X9_isBetween nu (g (120 + 5 * k)) (g (121 + 5 * k)) μ) cal_X9_isBetween (by decide +kernel) (by decide +kernel) (by decide +kernel) rfl rfl (Nat.le_of_ble_eq_true rfl) (by decide) (by decide) ?_
        rintro _ _ ⟨rfl, h9⟩; rw [h9]; clear h9
        show pm_V _ _ _ _ 45 _ [.int (lr_b (lr_in nu (g (120 + 5 * k)) (g (121 + 5 * k))))] _
        refine pm_ifb_eq (off := 5) 50 (by decide +kernel) (by decide) (fun (h45 : (lr_in nu (g (120 + 5 * k)) (g (121 + 5 * k))) = false) => ?_) (fun (h45 : (lr_in nu (g (120 + 5 * k)) (g (121 + 5 * k))) = true) => ?_)
        · refine pm_bl [(.iinc 3 1, 3, 3, 0, 1), (.goto (-51), 3, 2, 0, 0)] (pc1 := 2) (lo1 := [some (.ref 10), some (.int st), some (.int nu), some (.int ((nI k) + 1))]) (st1 := []) (μ1 := μ) (vc := True) rfl (by decide +kernel) rfl trivial ?_
          rw [nI_1]; exact ih (k + 1) (by omega) (by rw [he]; simp only [lr_fst]; rw [if_neg (by simp_all [lr_cs])])
        · refine pm_bl [(.iload_n 3, 1, 3, 0, 0)] (pc1 := 49) (lo1 := [some (.ref 10), some (.int st), some (.int nu), some (.int (nI k))]) (st1 := [.int (nI k)]) (μ1 := μ) (vc := True) rfl (by decide +kernel) rfl trivial ?_
          exact pm_iret (ty := .int) rfl rfl (by decide) (by decide) (by decide +kernel) (⟨by rw [he]; simp only [lr_fst]; rw [if_pos (by simp_all [lr_cs])], rfl⟩)
set_option maxHeartbeats 4000000 in
set_option maxRecDepth 100000 in
theorem c_X8_lowestFor {g : Nat → Int32} (st nu : Int32) (μ : pm_Mm) (hR : lr_Rel μ.1 1 g) (hG : lr_G g) : pm_CT mi_X8_lowestFor [.ref 10, .int st, .int nu] μ (fun v μ2 => v = some (.int (lr_srv g st nu)) ∧ μ2 = μ) pm_NX := by
  refine pm_CT_of (lo := [some (.ref 10), some (.int st), some (.int nu), none]) (by decide +kernel) rfl rfl (by intro v hv; simp at hv; rcases hv with rfl | rfl | rfl <;> rfl) (Nat.le_of_ble_eq_true rfl) rfl ?_
  refine pm_bl [(.iconst 0, 1, 0, 0, 0), (.istore_n 3, 1, 3, 0, 0)] (pc1 := 2) (lo1 := [some (.ref 10), some (.int st), some (.int nu), some (.int 0)]) (st1 := []) (μ1 := μ) (vc := True) rfl (by decide +kernel) rfl trivial ?_
  exact l_X8_lowestFor st nu μ hR hG (lr_n g 116) 0 (Nat.zero_add _) rfl
set_option maxHeartbeats 4000000 in
set_option maxRecDepth 100000 in
theorem c_X5_walkServing {g : Nat → Int32} {h : Nat} (μ : pm_Mm) (hR : lr_Rel μ.1 1 g) (hG : lr_G g) (hh : h < lr_n g 2) : pm_CT mi_X5_walkServing [.ref 1, .int (nI h)] μ (fun v μ2 => v = some (.int (lr_sv g h)) ∧ μ2 = μ) pm_NX := by
  refine pm_CT_of (lo := [some (.ref 1), some (.int (nI h))]) (by decide +kernel) rfl rfl (by intro v hv; simp at hv; rcases hv with rfl | rfl <;> rfl) (Nat.le_of_ble_eq_true rfl) rfl ?_
  have hm1 := lr_mh hG; have hm2 := lr_mw hG; have hm3 := lr_mp hG; have hm4 := lr_mr hG; have hm5 := lr_ma hG; have hm6 := lr_ml hG
  have hbe : lr_be (nI h) (nI (lr_n g 2)) = true := by rw [lr_be_nI (by omega) (by omega)]; exact decide_eq_true hh
  refine pm_bl [(.iload_n 1, 1, 1, 0, 0), (.aload_n 0, 1, 0, 0, 0), (.getfield 12, 3, 5, 0, 0), (.getfield 80, 3, 3, 0, 0)] (pc1 := 8) (lo1 := [some (.ref 1), some (.int (nI h))]) (st1 := [.int (μ.1 2 0), .int (nI h)]) (μ1 := μ) (vc := True) rfl (by decide +kernel) rfl trivial ?_
  rw [lr_rNh hR, lr_gh hG]
  refine pm_callSN2 mi_X9_isBelow (ix := 83) (host := RX9) (kc2 := 0) (ks2 := 0) (As := [.int (nI h), .int (nI (lr_n g 2))]) (rest := []) (c_X9_isBelow (nI h) (nI (lr_n g 2)) μ) cal_X9_isBelow (by decide +kernel) (by decide +kernel) (by decide +kernel) rfl rfl (Nat.le_of_ble_eq_true rfl) (by decide) (by decide) ?_
  rintro _ _ ⟨rfl, h9⟩; rw [h9]; clear h9
  rw [hbe]
  show pm_V _ _ _ _ 11 _ [.int 1] _
  refine pm_if_ne (off := 5) 16 (by decide +kernel) (by decide) (fun _ => ?_) (fun h9 => absurd h9 (by decide))
  refine pm_bl [(.aload_n 0, 1, 0, 0, 0), (.getfield 28, 3, 5, 2, 0), (.aload_n 0, 1, 0, 0, 0), (.getfield 12, 3, 5, 0, 0), (.getfield 87, 3, 3, 1, 0), (.iload_n 1, 1, 1, 0, 0), (.iaload, 1, 0, 0, 0), (.aload_n 0, 1, 0, 0, 0), (.getfield 12, 3, 5, 0, 0), (.getfield 90, 3, 3, 2, 0), (.iload_n 1, 1, 1, 0, 0), (.iaload, 1, 0, 0, 0)] (pc1 := 38) (lo1 := [some (.ref 1), some (.int (nI h))]) (st1 := [.int (μ.1 4 (nI h).toNatClampNeg), .int (μ.1 3 (nI h).toNatClampNeg), .ref 10]) (μ1 := μ) (vc := vp_in (nI h) 16 ∧ vp_in (nI h) 16 ∧ True) rfl (by decide +kernel) rfl ⟨(vp_in_nI (by omega) (by omega)), (vp_in_nI (by omega) (by omega)), trivial⟩ ?_
  first | rw [nI_clamp (n := h) (by omega), lr_rhst hR (i := h) hh] | rw [lr_rhst hR (i := h) hh]
  first | rw [nI_clamp (n := h) (by omega), lr_rhnu hR (i := h) hh] | rw [lr_rhnu hR (i := h) hh]
  refine pm_callV2 mi_X8_lowestFor (ix := 93) (b := 10) (ci := 8) (kc2 := 0) (ks2 := 0) (As := [.int (g (3 + 2 * h)), .int (g (4 + 2 * h))]) (rest := []) (c_X8_lowestFor (g (3 + 2 * h)) (g (4 + 2 * h)) μ hR hG) cal_X8_lowestFor lk5_93 (by decide +kernel) rfl (by decide +kernel) rfl rfl rfl rfl (Nat.le_of_ble_eq_true rfl) (by decide) (by decide) (fun _ _ h9 => h9.elim) ?_
  rintro _ _ ⟨rfl, h9⟩; rw [h9]; clear h9
  show pm_V _ _ _ _ 41 _ [.int (lr_srv g (g (3 + 2 * h)) (g (4 + 2 * h)))] _
  exact pm_iret (ty := .int) rfl rfl (by decide) (by decide) (by decide +kernel) (⟨rfl, rfl⟩)
set_option maxHeartbeats 4000000 in
set_option maxRecDepth 100000 in
theorem l_X5_countServedBy {g : Nat → Int32} (wk : Int32) (μ : pm_Mm) (hR : lr_Rel μ.1 1 g) (hG : lr_G g) : ∀ n k : Nat, ∀ x : Int32, k + n = lr_n g 2 → x = lr_sum (fun h => lr_b (decide (lr_sv g h = wk))) k → pm_V mi_X5_countServedBy ((fun v μ2 => v = some (.int (lr_svd g wk)) ∧ μ2 = μ), pm_NX, fun _ _ _ => True) 0 0 4 [some (.ref 1), some (.int wk), some (.int x), some (.int (nI k))] [] μ := by
  have hm1 := lr_mh hG; have hm2 := lr_mw hG; have hm3 := lr_mp hG; have hm4 := lr_mr hG; have hm5 := lr_ma hG; have hm6 := lr_ml hG
  intro n
  induction n with
  | zero =>
    intro k x hk he
    refine pm_bl [(.iload_n 3, 1, 3, 0, 0), (.aload_n 0, 1, 0, 0, 0), (.getfield 12, 3, 5, 0, 0), (.getfield 80, 3, 3, 0, 0)] (pc1 := 12) (lo1 := [some (.ref 1), some (.int wk), some (.int x), some (.int (nI k))]) (st1 := [.int (μ.1 2 0), .int (nI k)]) (μ1 := μ) (vc := True) rfl (by decide +kernel) rfl trivial ?_
    rw [lr_rNh hR, lr_gh hG]
    refine pm_icmp_ge (off := 26) 38 (by decide +kernel) (by decide) (fun (h12 : (nI (lr_n g 2)) ≤ (nI k)) => ?_) (fun (h9 : ¬ ((nI (lr_n g 2)) ≤ (nI k))) => absurd (nI_le (by omega) (by omega)) h9)
    refine pm_bl [(.iload_n 2, 1, 2, 0, 0)] (pc1 := 39) (lo1 := [some (.ref 1), some (.int wk), some (.int x), some (.int (nI k))]) (st1 := [.int x]) (μ1 := μ) (vc := True) rfl (by decide +kernel) rfl trivial ?_
    exact pm_iret (ty := .int) rfl rfl (by decide) (by decide) (by decide +kernel) (⟨by rw [he, lr_svd, ← hk]; rfl, rfl⟩)
  | succ n ih =>
    intro k x hk he
    refine pm_bl [(.iload_n 3, 1, 3, 0, 0), (.aload_n 0, 1, 0, 0, 0), (.getfield 12, 3, 5, 0, 0), (.getfield 80, 3, 3, 0, 0)] (pc1 := 12) (lo1 := [some (.ref 1), some (.int wk), some (.int x), some (.int (nI k))]) (st1 := [.int (μ.1 2 0), .int (nI k)]) (μ1 := μ) (vc := True) rfl (by decide +kernel) rfl trivial ?_
    rw [lr_rNh hR, lr_gh hG]
    refine pm_icmp_ge (off := 26) 38 (by decide +kernel) (by decide) (fun (h9 : (nI (lr_n g 2)) ≤ (nI k)) => absurd h9 (nI_ge (by omega) (by omega))) (fun (h12 : ¬ ((nI (lr_n g 2)) ≤ (nI k))) => ?_)
    refine pm_bl [(.iload_n 2, 1, 2, 0, 0), (.aload_n 0, 1, 0, 0, 0), (.iload_n 3, 1, 3, 0, 0)] (pc1 := 18) (lo1 := [some (.ref 1), some (.int wk), some (.int x), some (.int (nI k))]) (st1 := [.int (nI k), .ref 1, .int x]) (μ1 := μ) (vc := True) rfl (by decide +kernel) rfl trivial ?_
    refine pm_callV2 mi_X5_walkServing (ix := 97) (b := 1) (ci := 5) (kc2 := 0) (ks2 := 0) (As := [.int (nI k)]) (rest := [.int x]) (c_X5_walkServing (h := k) μ hR hG (by omega)) cal_X5_walkServing lk5_97 (by decide +kernel) rfl (by decide +kernel) rfl rfl rfl rfl (Nat.le_of_ble_eq_true rfl) (by decide) (by decide) (fun _ _ h9 => h9.elim) ?_
    rintro _ _ ⟨rfl, h9⟩; rw [h9]; clear h9
    show pm_V _ _ _ _ 21 _ [.int (lr_sv g k), .int x] _
    refine pm_bl [(.iload_n 1, 1, 1, 0, 0)] (pc1 := 22) (lo1 := [some (.ref 1), some (.int wk), some (.int x), some (.int (nI k))]) (st1 := [.int wk, .int (lr_sv g k), .int x]) (μ1 := μ) (vc := True) rfl (by decide +kernel) rfl trivial ?_
    refine pm_icmp_ne (off := 7) 29 (by decide +kernel) (by decide) (fun (h22 : ¬ (lr_sv g k) = wk) => ?_) (fun (h22 : (lr_sv g k) = wk) => ?_)
    · refine pm_bl [(.iconst 0, 1, 0, 0, 0), (.iadd, 1, 0, 0, 0), (.istore_n 2, 1, 2, 0, 0), (.iinc 3 1, 3, 3, 0, 1), (.goto (-31), 3, 4, 0, 0)] (pc1 := 4) (lo1 := [some (.ref 1), some (.int wk), some (.int (x + 0)), some (.int ((nI k) + 1))]) (st1 := []) (μ1 := μ) (vc := True) rfl (by decide +kernel) rfl trivial ?_
      rw [nI_1]; exact ih (k + 1) _ (by omega) (by rw [he]; simp_all [lr_sum, lr_b])
    · refine pm_bl [(.iconst 1, 1, 0, 0, 1), (.goto 4, 3, 30, 0, 0), (.iadd, 1, 0, 0, 0), (.istore_n 2, 1, 2, 0, 0), (.iinc 3 1, 3, 3, 0, 1), (.goto (-31), 3, 4, 0, 0)] (pc1 := 4) (lo1 := [some (.ref 1), some (.int wk), some (.int (x + 1)), some (.int ((nI k) + 1))]) (st1 := []) (μ1 := μ) (vc := True) rfl (by decide +kernel) rfl trivial ?_
      rw [nI_1]; exact ih (k + 1) _ (by omega) (by rw [he]; simp_all [lr_sum, lr_b])
set_option maxHeartbeats 4000000 in
set_option maxRecDepth 100000 in
theorem c_X5_countServedBy {g : Nat → Int32} (wk : Int32) (μ : pm_Mm) (hR : lr_Rel μ.1 1 g) (hG : lr_G g) : pm_CT mi_X5_countServedBy [.ref 1, .int wk] μ (fun v μ2 => v = some (.int (lr_svd g wk)) ∧ μ2 = μ) pm_NX := by
  refine pm_CT_of (lo := [some (.ref 1), some (.int wk), none, none]) (by decide +kernel) rfl rfl (by intro v hv; simp at hv; rcases hv with rfl | rfl <;> rfl) (Nat.le_of_ble_eq_true rfl) rfl ?_
  refine pm_bl [(.iconst 0, 1, 0, 0, 0), (.istore_n 2, 1, 2, 0, 0), (.iconst 0, 1, 0, 0, 0), (.istore_n 3, 1, 3, 0, 0)] (pc1 := 4) (lo1 := [some (.ref 1), some (.int wk), some (.int 0), some (.int 0)]) (st1 := []) (μ1 := μ) (vc := True) rfl (by decide +kernel) rfl trivial ?_
  exact l_X5_countServedBy wk μ hR hG (lr_n g 2) 0 0 (Nat.zero_add _) rfl
