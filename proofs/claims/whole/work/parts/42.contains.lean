/-! whether a house is there already -/
set_option maxHeartbeats 4000000 in
set_option maxRecDepth 100000 in
theorem l_X3_contains {g : Nat → Int32} (st nu : Int32) (μ : pm_Mm) (hR : lr_Rel μ.1 1 g) (hG : lr_G g) : ∀ n k : Nat, k + n = lr_n g 2 → lr_hex g st nu = lr_any (fun h => decide (g (3 + 2 * h) = st) && decide (g (4 + 2 * h) = nu)) n k → pm_V mi_X3_contains ((fun v μ2 => v = some (.int (lr_b (lr_hex g st nu))) ∧ μ2 = μ), pm_NX, fun _ _ _ => True) 0 0 2 [some (.ref 2), some (.int st), some (.int nu), some (.int (nI k))] [] μ := by
  have hm1 := lr_mh hG; have hm2 := lr_mw hG; have hm3 := lr_mp hG; have hm4 := lr_mr hG; have hm5 := lr_ma hG; have hm6 := lr_ml hG
  intro n
  induction n with
  | zero =>
    intro k hk he
    refine pm_bl [(.iload_n 3, 1, 3, 0, 0), (.aload_n 0, 1, 0, 0, 0), (.getfield 9, 3, 3, 0, 0)] (pc1 := 7) (lo1 := [some (.ref 2), some (.int st), some (.int nu), some (.int (nI k))]) (st1 := [.int (μ.1 2 0), .int (nI k)]) (μ1 := μ) (vc := True) rfl (by decide +kernel) rfl trivial ?_
    rw [lr_rNh hR, lr_gh hG]
    refine pm_icmp_ge (off := 31) 38 (by decide +kernel) (by decide) (fun (h7 : (nI (lr_n g 2)) ≤ (nI k)) => ?_) (fun (h9 : ¬ ((nI (lr_n g 2)) ≤ (nI k))) => absurd (nI_le (by omega) (by omega)) h9)
    refine pm_bl [(.iconst 0, 1, 0, 0, 0)] (pc1 := 39) (lo1 := [some (.ref 2), some (.int st), some (.int nu), some (.int (nI k))]) (st1 := [.int 0]) (μ1 := μ) (vc := True) rfl (by decide +kernel) rfl trivial ?_
    exact pm_iret (ty := .boolean) rfl (rfl) (by decide) (by decide) (by decide +kernel) (⟨by rw [he]; rfl, rfl⟩)
  | succ n ih =>
    intro k hk he
    refine pm_bl [(.iload_n 3, 1, 3, 0, 0), (.aload_n 0, 1, 0, 0, 0), (.getfield 9, 3, 3, 0, 0)] (pc1 := 7) (lo1 := [some (.ref 2), some (.int st), some (.int nu), some (.int (nI k))]) (st1 := [.int (μ.1 2 0), .int (nI k)]) (μ1 := μ) (vc := True) rfl (by decide +kernel) rfl trivial ?_
    rw [lr_rNh hR, lr_gh hG]
    refine pm_icmp_ge (off := 31) 38 (by decide +kernel) (by decide) (fun (h9 : (nI (lr_n g 2)) ≤ (nI k)) => absurd h9 (nI_ge (by omega) (by omega))) (fun (h7 : ¬ ((nI (lr_n g 2)) ≤ (nI k))) => ?_)
    refine pm_bl [(.aload_n 0, 1, 0, 0, 0), (.getfield 15, 3, 3, 1, 0), (.iload_n 3, 1, 3, 0, 0), (.iaload, 1, 0, 0, 0), (.iload_n 1, 1, 1, 0, 0)] (pc1 := 17) (lo1 := [some (.ref 2), some (.int st), some (.int nu), some (.int (nI k))]) (st1 := [.int st, .int (μ.1 3 (nI k).toNatClampNeg)]) (μ1 := μ) (vc := vp_in (nI k) 16 ∧ True) rfl (by decide +kernel) rfl ⟨(vp_in_nI (by omega) (by omega)), trivial⟩ ?_
    first | rw [nI_clamp (n := k) (by omega), lr_rhst hR (i := k) (by omega)] | rw [lr_rhst hR (i := k) (by omega)]
    refine pm_icmp_ne (off := 15) 32 (by decide +kernel) (by decide) (fun (h17 : ¬ (g (3 + 2 * k)) = st) => ?_) (fun (h17 : (g (3 + 2 * k)) = st) => ?_)
    · refine pm_bl [(.iinc 3 1, 3, 3, 0, 1), (.goto (-33), 3, 2, 0, 0)] (pc1 := 2) (lo1 := [some (.ref 2), some (.int st), some (.int nu), some (.int ((nI k) + 1))]) (st1 := []) (μ1 := μ) (vc := True) rfl (by decide +kernel) rfl trivial ?_
      rw [nI_1]; exact ih (k + 1) (by omega) (by rw [he]; simp only [lr_any]; rw [if_neg (by simp_all)])
    · refine pm_bl [(.aload_n 0, 1, 0, 0, 0), (.getfield 19, 3, 3, 2, 0), (.iload_n 3, 1, 3, 0, 0), (.iaload, 1, 0, 0, 0), (.iload_n 2, 1, 2, 0, 0)] (pc1 := 27) (lo1 := [some (.ref 2), some (.int st), some (.int nu), some (.int (nI k))]) (st1 := [.int nu, .int (μ.1 4 (nI k).toNatClampNeg)]) (μ1 := μ) (vc := vp_in (nI k) 16 ∧ True) rfl (by decide +kernel) rfl ⟨(vp_in_nI (by omega) (by omega)), trivial⟩ ?_
      first | rw [nI_clamp (n := k) (by omega), lr_rhnu hR (i := k) (by omega)] | rw [lr_rhnu hR (i := k) (by omega)]
      refine pm_icmp_ne (off := 5) 32 (by decide +kernel) (by decide) (fun (h27 : ¬ (g (4 + 2 * k)) = nu) => ?_) (fun (h27 : (g (4 + 2 * k)) = nu) => ?_)
      · refine pm_bl [(.iinc 3 1, 3, 3, 0, 1), (.goto (-33), 3, 2, 0, 0)] (pc1 := 2) (lo1 := [some (.ref 2), some (.int st), some (.int nu), some (.int ((nI k) + 1))]) (st1 := []) (μ1 := μ) (vc := True) rfl (by decide +kernel) rfl trivial ?_
        rw [nI_1]; exact ih (k + 1) (by omega) (by rw [he]; simp only [lr_any]; rw [if_neg (by simp_all)])
      · refine pm_bl [(.iconst 1, 1, 0, 0, 1)] (pc1 := 31) (lo1 := [some (.ref 2), some (.int st), some (.int nu), some (.int (nI k))]) (st1 := [.int 1]) (μ1 := μ) (vc := True) rfl (by decide +kernel) rfl trivial ?_
        exact pm_iret (ty := .boolean) rfl (rfl) (by decide) (by decide) (by decide +kernel) (⟨by rw [he]; simp only [lr_any]; rw [if_pos (by simp_all)]; rfl, rfl⟩)
set_option maxHeartbeats 4000000 in
set_option maxRecDepth 100000 in
theorem c_X3_contains {g : Nat → Int32} (st nu : Int32) (μ : pm_Mm) (hR : lr_Rel μ.1 1 g) (hG : lr_G g) : pm_CT mi_X3_contains [.ref 2, .int st, .int nu] μ (fun v μ2 => v = some (.int (lr_b (lr_hex g st nu))) ∧ μ2 = μ) pm_NX := by
  refine pm_CT_of (lo := [some (.ref 2), some (.int st), some (.int nu), none]) (by decide +kernel) rfl rfl (by intro v hv; simp at hv; rcases hv with rfl | rfl | rfl <;> rfl) (Nat.le_of_ble_eq_true rfl) rfl ?_
  refine pm_bl [(.iconst 0, 1, 0, 0, 0), (.istore_n 3, 1, 3, 0, 0)] (pc1 := 2) (lo1 := [some (.ref 2), some (.int st), some (.int nu), some (.int 0)]) (st1 := []) (μ1 := μ) (vc := True) rfl (by decide +kernel) rfl trivial ?_
  exact l_X3_contains st nu μ hR hG (lr_n g 2) 0 (Nat.zero_add _) rfl
