/-! small methods of LetterRouter, Walks, Houses: what they answer of their arguments and cells -/
set_option maxHeartbeats 4000000 in
set_option maxRecDepth 100000 in
theorem c_X9_isBelow (x n : Int32) (μ : pm_Mm) : pm_CT mi_X9_isBelow [.int x, .int n] μ (fun v μ2 => v = some (.int (lr_b (lr_be x n))) ∧ μ2 = μ) pm_NX := by
  refine pm_CT_of (lo := [some (.int x), some (.int n)]) (by decide +kernel) rfl rfl (by intro v hv; simp at hv; rcases hv with rfl | rfl <;> rfl) (Nat.le_of_ble_eq_true rfl) rfl ?_
  refine pm_bl [(.iload_n 0, 1, 0, 0, 0)] (pc1 := 1) (lo1 := [some (.int x), some (.int n)]) (st1 := [.int x]) (μ1 := μ) (vc := True) rfl (by decide +kernel) rfl trivial ?_
  refine pm_if_lt (off := 12) 13 (by decide +kernel) (by decide) (fun (h1 : x < 0) => ?_) (fun (h1 : ¬ (x < 0)) => ?_)
  · refine pm_bl [(.iconst 0, 1, 0, 0, 0)] (pc1 := 14) (lo1 := [some (.int x), some (.int n)]) (st1 := [.int 0]) (μ1 := μ) (vc := True) rfl (by decide +kernel) rfl trivial ?_
    exact pm_iret (ty := .boolean) rfl (rfl) (by decide) (by decide) (by decide +kernel) (⟨by congr 2; simp [lr_be, *]; rfl, rfl⟩)
  · refine pm_bl [(.iload_n 0, 1, 0, 0, 0), (.iload_n 1, 1, 1, 0, 0)] (pc1 := 6) (lo1 := [some (.int x), some (.int n)]) (st1 := [.int n, .int x]) (μ1 := μ) (vc := True) rfl (by decide +kernel) rfl trivial ?_
    refine pm_icmp_ge (off := 7) 13 (by decide +kernel) (by decide) (fun (h6 : n ≤ x) => ?_) (fun (h6 : ¬ (n ≤ x)) => ?_)
    · refine pm_bl [(.iconst 0, 1, 0, 0, 0)] (pc1 := 14) (lo1 := [some (.int x), some (.int n)]) (st1 := [.int 0]) (μ1 := μ) (vc := True) rfl (by decide +kernel) rfl trivial ?_
      exact pm_iret (ty := .boolean) rfl (rfl) (by decide) (by decide) (by decide +kernel) (⟨by congr 2; simp [lr_be, *]; rfl, rfl⟩)
    · refine pm_bl [(.iconst 1, 1, 0, 0, 1), (.goto 4, 3, 14, 0, 0)] (pc1 := 14) (lo1 := [some (.int x), some (.int n)]) (st1 := [.int 1]) (μ1 := μ) (vc := True) rfl (by decide +kernel) rfl trivial ?_
      exact pm_iret (ty := .boolean) rfl (rfl) (by decide) (by decide) (by decide +kernel) (⟨by congr 2; simp [lr_be, *]; rfl, rfl⟩)
set_option maxHeartbeats 4000000 in
set_option maxRecDepth 100000 in
theorem c_X9_isBetween (x a b : Int32) (μ : pm_Mm) : pm_CT mi_X9_isBetween [.int x, .int a, .int b] μ (fun v μ2 => v = some (.int (lr_b (lr_in x a b))) ∧ μ2 = μ) pm_NX := by
  refine pm_CT_of (lo := [some (.int x), some (.int a), some (.int b)]) (by decide +kernel) rfl rfl (by intro v hv; simp at hv; rcases hv with rfl | rfl | rfl <;> rfl) (Nat.le_of_ble_eq_true rfl) rfl ?_
  refine pm_bl [(.iload_n 0, 1, 0, 0, 0), (.iload_n 1, 1, 1, 0, 0)] (pc1 := 2) (lo1 := [some (.int x), some (.int a), some (.int b)]) (st1 := [.int a, .int x]) (μ1 := μ) (vc := True) rfl (by decide +kernel) rfl trivial ?_
  refine pm_icmp_lt (off := 12) 14 (by decide +kernel) (by decide) (fun (h2 : x < a) => ?_) (fun (h2 : ¬ (x < a)) => ?_)
  · refine pm_bl [(.iconst 0, 1, 0, 0, 0)] (pc1 := 15) (lo1 := [some (.int x), some (.int a), some (.int b)]) (st1 := [.int 0]) (μ1 := μ) (vc := True) rfl (by decide +kernel) rfl trivial ?_
    exact pm_iret (ty := .boolean) rfl (rfl) (by decide) (by decide) (by decide +kernel) (⟨by congr 2; simp [lr_in, *]; rfl, rfl⟩)
  · refine pm_bl [(.iload_n 0, 1, 0, 0, 0), (.iload_n 2, 1, 2, 0, 0)] (pc1 := 7) (lo1 := [some (.int x), some (.int a), some (.int b)]) (st1 := [.int b, .int x]) (μ1 := μ) (vc := True) rfl (by decide +kernel) rfl trivial ?_
    refine pm_icmp_gt (off := 7) 14 (by decide +kernel) (by decide) (fun (h7 : b < x) => ?_) (fun (h7 : ¬ (b < x)) => ?_)
    · refine pm_bl [(.iconst 0, 1, 0, 0, 0)] (pc1 := 15) (lo1 := [some (.int x), some (.int a), some (.int b)]) (st1 := [.int 0]) (μ1 := μ) (vc := True) rfl (by decide +kernel) rfl trivial ?_
      exact pm_iret (ty := .boolean) rfl (rfl) (by decide) (by decide) (by decide +kernel) (⟨by congr 2; simp [lr_in, *]; rfl, rfl⟩)
    · refine pm_bl [(.iconst 1, 1, 0, 0, 1), (.goto 4, 3, 15, 0, 0)] (pc1 := 15) (lo1 := [some (.int x), some (.int a), some (.int b)]) (st1 := [.int 1]) (μ1 := μ) (vc := True) rfl (by decide +kernel) rfl trivial ?_
      exact pm_iret (ty := .boolean) rfl (rfl) (by decide) (by decide) (by decide +kernel) (⟨by congr 2; simp [lr_in, *]; rfl, rfl⟩)
set_option maxHeartbeats 4000000 in
set_option maxRecDepth 100000 in
theorem c_X10_in (x a b : Int32) (μ : pm_Mm) : pm_CT mi_X10_in [.int x, .int a, .int b] μ (fun v μ2 => v = some (.int (lr_b (lr_in x a b))) ∧ μ2 = μ) pm_NX := by
  refine pm_CT_of (lo := [some (.int x), some (.int a), some (.int b)]) (by decide +kernel) rfl rfl (by intro v hv; simp at hv; rcases hv with rfl | rfl | rfl <;> rfl) (Nat.le_of_ble_eq_true rfl) rfl ?_
  refine pm_bl [(.iload_n 0, 1, 0, 0, 0), (.iload_n 1, 1, 1, 0, 0)] (pc1 := 2) (lo1 := [some (.int x), some (.int a), some (.int b)]) (st1 := [.int a, .int x]) (μ1 := μ) (vc := True) rfl (by decide +kernel) rfl trivial ?_
  refine pm_icmp_lt (off := 12) 14 (by decide +kernel) (by decide) (fun (h2 : x < a) => ?_) (fun (h2 : ¬ (x < a)) => ?_)
  · refine pm_bl [(.iconst 0, 1, 0, 0, 0)] (pc1 := 15) (lo1 := [some (.int x), some (.int a), some (.int b)]) (st1 := [.int 0]) (μ1 := μ) (vc := True) rfl (by decide +kernel) rfl trivial ?_
    exact pm_iret (ty := .boolean) rfl (rfl) (by decide) (by decide) (by decide +kernel) (⟨by congr 2; simp [lr_in, *]; rfl, rfl⟩)
  · refine pm_bl [(.iload_n 0, 1, 0, 0, 0), (.iload_n 2, 1, 2, 0, 0)] (pc1 := 7) (lo1 := [some (.int x), some (.int a), some (.int b)]) (st1 := [.int b, .int x]) (μ1 := μ) (vc := True) rfl (by decide +kernel) rfl trivial ?_
    refine pm_icmp_gt (off := 7) 14 (by decide +kernel) (by decide) (fun (h7 : b < x) => ?_) (fun (h7 : ¬ (b < x)) => ?_)
    · refine pm_bl [(.iconst 0, 1, 0, 0, 0)] (pc1 := 15) (lo1 := [some (.int x), some (.int a), some (.int b)]) (st1 := [.int 0]) (μ1 := μ) (vc := True) rfl (by decide +kernel) rfl trivial ?_
      exact pm_iret (ty := .boolean) rfl (rfl) (by decide) (by decide) (by decide +kernel) (⟨by congr 2; simp [lr_in, *]; rfl, rfl⟩)
    · refine pm_bl [(.iconst 1, 1, 0, 0, 1), (.goto 4, 3, 15, 0, 0)] (pc1 := 15) (lo1 := [some (.int x), some (.int a), some (.int b)]) (st1 := [.int 1]) (μ1 := μ) (vc := True) rfl (by decide +kernel) rfl trivial ?_
      exact pm_iret (ty := .boolean) rfl (rfl) (by decide) (by decide) (by decide +kernel) (⟨by congr 2; simp [lr_in, *]; rfl, rfl⟩)
