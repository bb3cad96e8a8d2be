/-! stops, outcomes, rounds of redirects, sums over letters -/
theorem lr_fst_ok (p : Nat → Bool) : ∀ n k : Nat, lr_fst p n k = -1 ∨ ∃ i, lr_fst p n k = nI i ∧ k ≤ i ∧ i < k + n ∧ p i = true
  | 0, k => Or.inl rfl
  | n + 1, k => by
    unfold lr_fst
    split
    · rename_i h
      exact Or.inr ⟨k, rfl, by omega, by omega, h⟩
    · rcases lr_fst_ok p n (k + 1) with h | ⟨i, h1, h2, h3, h4⟩
      · exact Or.inl h
      · exact Or.inr ⟨i, h1, by omega, by omega, h4⟩
theorem lr_sv_ok (g : Nat → Int32) (h : Nat) : lr_sv g h = -1 ∨ ∃ v, lr_sv g h = nI v ∧ v < lr_n g 116 := by
  rcases lr_fst_ok (lr_cs g (g (3 + 2 * h)) (g (4 + 2 * h))) (lr_n g 116) 0 with e | ⟨i, h1, -, h3, -⟩
  · exact Or.inl e
  · exact Or.inr ⟨i, h1, by omega⟩
/-- the stops ahead, or -1 if no walk serves -/
def lr_spo (g : Nat → Int32) (h : Nat) : Int32 := if lr_sv g h = -1 then -1 else lr_sp g h
set_option maxHeartbeats 4000000 in
set_option maxRecDepth 100000 in
theorem l_X5_stopPosition {g : Nat → Int32} (h v : Nat) (hh : h < lr_n g 2) (hv : v < lr_n g 116) (hsv : lr_sv g h = nI v) (μ : pm_Mm) (hR : lr_Rel μ.1 1 g) (hG : lr_G g) : ∀ n k : Nat, ∀ x : Int32, k + n = lr_n g 2 → x = lr_sum (fun i => lr_b (decide (lr_sv g i = lr_sv g h) && lr_cf g (lr_sv g h) (g (4 + 2 * i)) (g (4 + 2 * h)))) k → pm_V mi_X5_stopPosition ((fun v μ2 => v = some (.int (lr_sp g h)) ∧ μ2 = μ), pm_NX, fun _ _ _ => True) 0 0 18 [some (.ref 1), some (.int (nI h)), some (.int (nI v)), some (.int x), some (.int (nI k))] [] μ := by
  have hm1 := lr_mh hG; have hm2 := lr_mw hG; have hm3 := lr_mp hG; have hm4 := lr_mr hG; have hm5 := lr_ma hG; have hm6 := lr_ml hG
  intro n
  induction n with
  | zero =>
    intro k x hk he
    refine pm_bl [(.iload 4, 2, 4, 0, 0), (.aload_n 0, 1, 0, 0, 0), (.getfield 12, 3, 5, 0, 0), (.getfield 80, 3, 3, 0, 0)] (pc1 := 27) (lo1 := [some (.ref 1), some (.int (nI h)), some (.int (nI v)), some (.int x), some (.int (nI k))]) (st1 := [.int (μ.1 2 0), .int (nI k)]) (μ1 := μ) (vc := True) rfl (by decide +kernel) rfl trivial ?_
    rw [lr_rNh hR, lr_gh hG]
    refine pm_icmp_ge (off := 52) 79 (by decide +kernel) (by decide) (fun (h27 : (nI (lr_n g 2)) ≤ (nI k)) => ?_) (fun (h9 : ¬ ((nI (lr_n g 2)) ≤ (nI k))) => absurd (nI_le (by omega) (by omega)) h9)
    refine pm_bl [(.iload_n 3, 1, 3, 0, 0)] (pc1 := 80) (lo1 := [some (.ref 1), some (.int (nI h)), some (.int (nI v)), some (.int x), some (.int (nI k))]) (st1 := [.int x]) (μ1 := μ) (vc := True) rfl (by decide +kernel) rfl trivial ?_
    exact pm_iret (ty := .int) rfl rfl (by decide) (by decide) (by decide +kernel) (⟨by rw [he, lr_sp, ← hk]; rfl, rfl⟩)
  | succ n ih =>
    intro k x hk he
    refine pm_bl [(.iload 4, 2, 4, 0, 0), (.aload_n 0, 1, 0, 0, 0), (.getfield 12, 3, 5, 0, 0), (.getfield 80, 3, 3, 0, 0)] (pc1 := 27) (lo1 := [some (.ref 1), some (.int (nI h)), some (.int (nI v)), some (.int x), some (.int (nI k))]) (st1 := [.int (μ.1 2 0), .int (nI k)]) (μ1 := μ) (vc := True) rfl (by decide +kernel) rfl trivial ?_
    rw [lr_rNh hR, lr_gh hG]
    refine pm_icmp_ge (off := 52) 79 (by decide +kernel) (by decide) (fun (h9 : (nI (lr_n g 2)) ≤ (nI k)) => absurd h9 (nI_ge (by omega) (by omega))) (fun (h27 : ¬ ((nI (lr_n g 2)) ≤ (nI k))) => ?_)
    refine pm_bl [(.aload_n 0, 1, 0, 0, 0), (.iload 4, 2, 4, 0, 0)] (pc1 := 33) (lo1 := [some (.ref 1), some (.int (nI h)), some (.int (nI v)), some (.int x), some (.int (nI k))]) (st1 := [.int (nI k), .ref 1]) (μ1 := μ) (vc := True) rfl (by decide +kernel) rfl trivial ?_
    refine pm_callV2 mi_X5_walkServing (ix := 97) (b := 1) (ci := 5) (kc2 := 0) (ks2 := 0) (As := [.int (nI k)]) (rest := []) (c_X5_walkServing (h := k) μ hR hG (by omega)) cal_X5_walkServing lk5_97 (by decide +kernel) rfl (by decide +kernel) rfl rfl rfl rfl (Nat.le_of_ble_eq_true rfl) (by decide) (by decide) (fun _ _ h9 => h9.elim) ?_
    rintro _ _ ⟨rfl, h9⟩; rw [h9]; clear h9
    show pm_V _ _ _ _ 36 _ [.int (lr_sv g k)] _
    refine pm_bl [(.iload_n 2, 1, 2, 0, 0)] (pc1 := 37) (lo1 := [some (.ref 1), some (.int (nI h)), some (.int (nI v)), some (.int x), some (.int (nI k))]) (st1 := [.int (nI v), .int (lr_sv g k)]) (μ1 := μ) (vc := True) rfl (by decide +kernel) rfl trivial ?_
    refine pm_icmp_ne (off := 36) 73 (by decide +kernel) (by decide) (fun (h37 : ¬ (lr_sv g k) = (nI v)) => ?_) (fun (h37 : (lr_sv g k) = (nI v)) => ?_)
    · refine pm_bl [(.iinc 4 1, 3, 4, 0, 1), (.goto (-58), 3, 18, 0, 0)] (pc1 := 18) (lo1 := [some (.ref 1), some (.int (nI h)), some (.int (nI v)), some (.int x), some (.int ((nI k) + 1))]) (st1 := []) (μ1 := μ) (vc := True) rfl (by decide +kernel) rfl trivial ?_
      rw [nI_1]; exact ih (k + 1) _ (by omega) (by rw [he]; simp only [lr_sum, hsv]; simp_all [lr_b])
    · refine pm_bl [(.aload_n 0, 1, 0, 0, 0), (.getfield 28, 3, 5, 2, 0), (.iload_n 2, 1, 2, 0, 0), (.aload_n 0, 1, 0, 0, 0), (.getfield 12, 3, 5, 0, 0), (.getfield 90, 3, 3, 2, 0), (.iload 4, 2, 4, 0, 0), (.iaload, 1, 0, 0, 0), (.aload_n 0, 1, 0, 0, 0), (.getfield 12, 3, 5, 0, 0), (.getfield 90, 3, 3, 2, 0), (.iload_n 1, 1, 1, 0, 0), (.iaload, 1, 0, 0, 0)] (pc1 := 64) (lo1 := [some (.ref 1), some (.int (nI h)), some (.int (nI v)), some (.int x), some (.int (nI k))]) (st1 := [.int (μ.1 4 (nI h).toNatClampNeg), .int (μ.1 4 (nI k).toNatClampNeg), .int (nI v), .ref 10]) (μ1 := μ) (vc := vp_in (nI k) 16 ∧ vp_in (nI h) 16 ∧ True) rfl (by decide +kernel) rfl ⟨(vp_in_nI (by omega) (by omega)), (vp_in_nI (by omega) (by omega)), trivial⟩ ?_
      first | rw [nI_clamp (n := k) (by omega), lr_rhnu hR (i := k) (by omega)] | rw [lr_rhnu hR (i := k) (by omega)]
      first | rw [nI_clamp (n := h) (by omega), lr_rhnu hR (i := h) hh] | rw [lr_rhnu hR (i := h) hh]
      refine pm_callV2 mi_X8_comesFirst (ix := 104) (b := 10) (ci := 8) (kc2 := 0) (ks2 := 0) (As := [.int (nI v), .int (g (4 + 2 * k)), .int (g (4 + 2 * h))]) (rest := []) (c_X8_comesFirst (w := v) (g (4 + 2 * k)) (g (4 + 2 * h)) μ hR hG (by omega)) cal_X8_comesFirst lk5_104 (by decide +kernel) rfl (by decide +kernel) rfl rfl rfl rfl (Nat.le_of_ble_eq_true rfl) (by decide) (by decide) (fun _ _ h9 => h9.elim) ?_
      rintro _ _ ⟨rfl, h9⟩; rw [h9]; clear h9
      show pm_V _ _ _ _ 67 _ [.int (lr_b (lr_cf g (nI v) (g (4 + 2 * k)) (g (4 + 2 * h))))] _
      refine pm_ifb_eq (off := 6) 73 (by decide +kernel) (by decide) (fun (h67 : (lr_cf g (nI v) (g (4 + 2 * k)) (g (4 + 2 * h))) = false) => ?_) (fun (h67 : (lr_cf g (nI v) (g (4 + 2 * k)) (g (4 + 2 * h))) = true) => ?_)
      · refine pm_bl [(.iinc 4 1, 3, 4, 0, 1), (.goto (-58), 3, 18, 0, 0)] (pc1 := 18) (lo1 := [some (.ref 1), some (.int (nI h)), some (.int (nI v)), some (.int x), some (.int ((nI k) + 1))]) (st1 := []) (μ1 := μ) (vc := True) rfl (by decide +kernel) rfl trivial ?_
        rw [nI_1]; exact ih (k + 1) _ (by omega) (by rw [he]; simp only [lr_sum, hsv]; simp_all [lr_b])
      · refine pm_bl [(.iinc 3 1, 3, 3, 0, 1), (.iinc 4 1, 3, 4, 0, 1), (.goto (-58), 3, 18, 0, 0)] (pc1 := 18) (lo1 := [some (.ref 1), some (.int (nI h)), some (.int (nI v)), some (.int (x + 1)), some (.int ((nI k) + 1))]) (st1 := []) (μ1 := μ) (vc := True) rfl (by decide +kernel) rfl trivial ?_
        rw [nI_1]; exact ih (k + 1) _ (by omega) (by rw [he]; simp only [lr_sum, hsv]; simp_all [lr_b])
set_option maxHeartbeats 4000000 in
set_option maxRecDepth 100000 in
theorem c_X5_stopPosition {g : Nat → Int32} {h : Nat} (μ : pm_Mm) (hR : lr_Rel μ.1 1 g) (hG : lr_G g) (hh : h < lr_n g 2) : pm_CT mi_X5_stopPosition [.ref 1, .int (nI h)] μ (fun v μ2 => v = some (.int (lr_spo g h)) ∧ μ2 = μ) pm_NX := by
  refine pm_CT_of (lo := [some (.ref 1), some (.int (nI h)), none, none, none]) (by decide +kernel) rfl rfl (by intro v hv; simp at hv; rcases hv with rfl | rfl <;> rfl) (Nat.le_of_ble_eq_true rfl) rfl ?_
  have hm1 := lr_mh hG; have hm2 := lr_mw hG; have hm3 := lr_mp hG; have hm4 := lr_mr hG; have hm5 := lr_ma hG; have hm6 := lr_ml hG
  refine pm_bl [(.aload_n 0, 1, 0, 0, 0), (.iload_n 1, 1, 1, 0, 0)] (pc1 := 2) (lo1 := [some (.ref 1), some (.int (nI h)), none, none, none]) (st1 := [.int (nI h), .ref 1]) (μ1 := μ) (vc := True) rfl (by decide +kernel) rfl trivial ?_
  refine pm_callV2 mi_X5_walkServing (ix := 97) (b := 1) (ci := 5) (kc2 := 0) (ks2 := 0) (As := [.int (nI h)]) (rest := []) (c_X5_walkServing (h := h) μ hR hG (by omega)) cal_X5_walkServing lk5_97 (by decide +kernel) rfl (by decide +kernel) rfl rfl rfl rfl (Nat.le_of_ble_eq_true rfl) (by decide) (by decide) (fun _ _ h9 => h9.elim) ?_
  rintro _ _ ⟨rfl, h9⟩; rw [h9]; clear h9
  show pm_V _ _ _ _ 5 _ [.int (lr_sv g h)] _
  refine pm_bl [(.istore_n 2, 1, 2, 0, 0), (.iconst 0, 1, 0, 0, 0), (.istore_n 3, 1, 3, 0, 0), (.iload_n 2, 1, 2, 0, 0), (.iconst (-1), 1, 0, 0, (-1))] (pc1 := 10) (lo1 := [some (.ref 1), some (.int (nI h)), some (.int (lr_sv g h)), some (.int 0), none]) (st1 := [.int (-1), .int (lr_sv g h)]) (μ1 := μ) (vc := True) rfl (by decide +kernel) rfl trivial ?_
  refine pm_icmp_ne (off := 5) 15 (by decide +kernel) (by decide) (fun (h10 : ¬ (lr_sv g h) = (-1)) => ?_) (fun (h10 : (lr_sv g h) = (-1)) => ?_)
  · refine pm_bl [(.iconst 0, 1, 0, 0, 0), (.istore 4, 2, 4, 0, 0)] (pc1 := 18) (lo1 := [some (.ref 1), some (.int (nI h)), some (.int (lr_sv g h)), some (.int 0), some (.int 0)]) (st1 := []) (μ1 := μ) (vc := True) rfl (by decide +kernel) rfl trivial ?_
    obtain ⟨v, hv1, hv2⟩ := (lr_sv_ok g h).resolve_left h10
    rw [lr_spo, if_neg h10, hv1]
    exact l_X5_stopPosition h v hh hv2 hv1 μ hR hG (lr_n g 2) 0 0 (Nat.zero_add _) rfl
  · refine pm_bl [(.iconst (-1), 1, 0, 0, (-1))] (pc1 := 14) (lo1 := [some (.ref 1), some (.int (nI h)), some (.int (lr_sv g h)), some (.int 0), none]) (st1 := [.int (-1)]) (μ1 := μ) (vc := True) rfl (by decide +kernel) rfl trivial ?_
    exact pm_iret (ty := .int) rfl rfl (by decide) (by decide) (by decide +kernel) (⟨by rw [lr_spo, if_pos h10], rfl⟩)
def lr_hso (g : Nat → Int32) (w x : Int32) : Int32 := lr_fst (fun i => decide (lr_sv g i = w) && decide (lr_spo g i = x)) (lr_n g 2) 0
set_option maxHeartbeats 4000000 in
set_option maxRecDepth 100000 in
theorem l_X5_houseAtStop {g : Nat → Int32} (wk ix : Int32) (μ : pm_Mm) (hR : lr_Rel μ.1 1 g) (hG : lr_G g) : ∀ n k : Nat, k + n = lr_n g 2 → lr_hso g wk ix = lr_fst (fun i => decide (lr_sv g i = wk) && decide (lr_spo g i = ix)) n k → pm_V mi_X5_houseAtStop ((fun v μ2 => v = some (.int (lr_hso g wk ix)) ∧ μ2 = μ), pm_NX, fun _ _ _ => True) 0 0 2 [some (.ref 1), some (.int wk), some (.int ix), some (.int (nI k))] [] μ := by
  have hm1 := lr_mh hG; have hm2 := lr_mw hG; have hm3 := lr_mp hG; have hm4 := lr_mr hG; have hm5 := lr_ma hG; have hm6 := lr_ml hG
  intro n
  induction n with
  | zero =>
    intro k hk he
    refine pm_bl [(.iload_n 3, 1, 3, 0, 0), (.aload_n 0, 1, 0, 0, 0), (.getfield 12, 3, 5, 0, 0), (.getfield 80, 3, 3, 0, 0)] (pc1 := 10) (lo1 := [some (.ref 1), some (.int wk), some (.int ix), some (.int (nI k))]) (st1 := [.int (μ.1 2 0), .int (nI k)]) (μ1 := μ) (vc := True) rfl (by decide +kernel) rfl trivial ?_
    rw [lr_rNh hR, lr_gh hG]
    refine pm_icmp_ge (off := 29) 39 (by decide +kernel) (by decide) (fun (h10 : (nI (lr_n g 2)) ≤ (nI k)) => ?_) (fun (h9 : ¬ ((nI (lr_n g 2)) ≤ (nI k))) => absurd (nI_le (by omega) (by omega)) h9)
    refine pm_bl [(.iconst (-1), 1, 0, 0, (-1))] (pc1 := 40) (lo1 := [some (.ref 1), some (.int wk), some (.int ix), some (.int (nI k))]) (st1 := [.int (-1)]) (μ1 := μ) (vc := True) rfl (by decide +kernel) rfl trivial ?_
    exact pm_iret (ty := .int) rfl rfl (by decide) (by decide) (by decide +kernel) (⟨by rw [he]; rfl, rfl⟩)
  | succ n ih =>
    intro k hk he
    refine pm_bl [(.iload_n 3, 1, 3, 0, 0), (.aload_n 0, 1, 0, 0, 0), (.getfield 12, 3, 5, 0, 0), (.getfield 80, 3, 3, 0, 0)] (pc1 := 10) (lo1 := [some (.ref 1), some (.int wk), some (.int ix), some (.int (nI k))]) (st1 := [.int (μ.1 2 0), .int (nI k)]) (μ1 := μ) (vc := True) rfl (by decide +kernel) rfl trivial ?_
    rw [lr_rNh hR, lr_gh hG]
    refine pm_icmp_ge (off := 29) 39 (by decide +kernel) (by decide) (fun (h9 : (nI (lr_n g 2)) ≤ (nI k)) => absurd h9 (nI_ge (by omega) (by omega))) (fun (h10 : ¬ ((nI (lr_n g 2)) ≤ (nI k))) => ?_)
    refine pm_bl [(.aload_n 0, 1, 0, 0, 0), (.iload_n 3, 1, 3, 0, 0)] (pc1 := 15) (lo1 := [some (.ref 1), some (.int wk), some (.int ix), some (.int (nI k))]) (st1 := [.int (nI k), .ref 1]) (μ1 := μ) (vc := True) rfl (by decide +kernel) rfl trivial ?_
    refine pm_callV2 mi_X5_walkServing (ix := 97) (b := 1) (ci := 5) (kc2 := 0) (ks2 := 0) (As := [.int (nI k)]) (rest := []) (c_X5_walkServing (h := k) μ hR hG (by omega)) cal_X5_walkServing lk5_97 (by decide +kernel) rfl (by decide +kernel) rfl rfl rfl rfl (Nat.le_of_ble_eq_true rfl) (by decide) (by decide) (fun _ _ h9 => h9.elim) ?_
    rintro _ _ ⟨rfl, h9⟩; rw [h9]; clear h9
    show pm_V _ _ _ _ 18 _ [.int (lr_sv g k)] _
    refine pm_bl [(.iload_n 1, 1, 1, 0, 0)] (pc1 := 19) (lo1 := [some (.ref 1), some (.int wk), some (.int ix), some (.int (nI k))]) (st1 := [.int wk, .int (lr_sv g k)]) (μ1 := μ) (vc := True) rfl (by decide +kernel) rfl trivial ?_
    refine pm_icmp_ne (off := 14) 33 (by decide +kernel) (by decide) (fun (h19 : ¬ (lr_sv g k) = wk) => ?_) (fun (h19 : (lr_sv g k) = wk) => ?_)
    · refine pm_bl [(.iinc 3 1, 3, 3, 0, 1), (.goto (-34), 3, 2, 0, 0)] (pc1 := 2) (lo1 := [some (.ref 1), some (.int wk), some (.int ix), some (.int ((nI k) + 1))]) (st1 := []) (μ1 := μ) (vc := True) rfl (by decide +kernel) rfl trivial ?_
      rw [nI_1]; exact ih (k + 1) (by omega) (by rw [he]; simp only [lr_fst]; rw [if_neg (by simp_all)])
    · refine pm_bl [(.aload_n 0, 1, 0, 0, 0), (.iload_n 3, 1, 3, 0, 0)] (pc1 := 24) (lo1 := [some (.ref 1), some (.int wk), some (.int ix), some (.int (nI k))]) (st1 := [.int (nI k), .ref 1]) (μ1 := μ) (vc := True) rfl (by decide +kernel) rfl trivial ?_
      refine pm_callV2 mi_X5_stopPosition (ix := 101) (b := 1) (ci := 5) (kc2 := 0) (ks2 := 0) (As := [.int (nI k)]) (rest := []) (c_X5_stopPosition (h := k) μ hR hG (by omega)) cal_X5_stopPosition lk5_101 (by decide +kernel) rfl (by decide +kernel) rfl rfl rfl rfl (Nat.le_of_ble_eq_true rfl) (by decide) (by decide) (fun _ _ h9 => h9.elim) ?_
      rintro _ _ ⟨rfl, h9⟩; rw [h9]; clear h9
      show pm_V _ _ _ _ 27 _ [.int (lr_spo g k)] _
      refine pm_bl [(.iload_n 2, 1, 2, 0, 0)] (pc1 := 28) (lo1 := [some (.ref 1), some (.int wk), some (.int ix), some (.int (nI k))]) (st1 := [.int ix, .int (lr_spo g k)]) (μ1 := μ) (vc := True) rfl (by decide +kernel) rfl trivial ?_
      refine pm_icmp_ne (off := 5) 33 (by decide +kernel) (by decide) (fun (h28 : ¬ (lr_spo g k) = ix) => ?_) (fun (h28 : (lr_spo g k) = ix) => ?_)
      · refine pm_bl [(.iinc 3 1, 3, 3, 0, 1), (.goto (-34), 3, 2, 0, 0)] (pc1 := 2) (lo1 := [some (.ref 1), some (.int wk), some (.int ix), some (.int ((nI k) + 1))]) (st1 := []) (μ1 := μ) (vc := True) rfl (by decide +kernel) rfl trivial ?_
        rw [nI_1]; exact ih (k + 1) (by omega) (by rw [he]; simp only [lr_fst]; rw [if_neg (by simp_all)])
      · refine pm_bl [(.iload_n 3, 1, 3, 0, 0)] (pc1 := 32) (lo1 := [some (.ref 1), some (.int wk), some (.int ix), some (.int (nI k))]) (st1 := [.int (nI k)]) (μ1 := μ) (vc := True) rfl (by decide +kernel) rfl trivial ?_
        exact pm_iret (ty := .int) rfl rfl (by decide) (by decide) (by decide +kernel) (⟨by rw [he]; simp only [lr_fst]; rw [if_pos (by simp_all)], rfl⟩)
set_option maxHeartbeats 4000000 in
set_option maxRecDepth 100000 in
theorem c_X5_houseAtStop {g : Nat → Int32} (wk ix : Int32) (μ : pm_Mm) (hR : lr_Rel μ.1 1 g) (hG : lr_G g) : pm_CT mi_X5_houseAtStop [.ref 1, .int wk, .int ix] μ (fun v μ2 => v = some (.int (lr_hso g wk ix)) ∧ μ2 = μ) pm_NX := by
  refine pm_CT_of (lo := [some (.ref 1), some (.int wk), some (.int ix), none]) (by decide +kernel) rfl rfl (by intro v hv; simp at hv; rcases hv with rfl | rfl | rfl <;> rfl) (Nat.le_of_ble_eq_true rfl) rfl ?_
  refine pm_bl [(.iconst 0, 1, 0, 0, 0), (.istore_n 3, 1, 3, 0, 0)] (pc1 := 2) (lo1 := [some (.ref 1), some (.int wk), some (.int ix), some (.int 0)]) (st1 := []) (μ1 := μ) (vc := True) rfl (by decide +kernel) rfl trivial ?_
  exact l_X5_houseAtStop wk ix μ hR hG (lr_n g 2) 0 (Nat.zero_add _) rfl
set_option maxHeartbeats 4000000 in
set_option maxRecDepth 100000 in
theorem c_X5_outcome {g : Nat → Int32} {j : Nat} (dy : Int32) (μ : pm_Mm) (hR : lr_Rel μ.1 1 g) (hG : lr_G g) (hj : j < lr_n g 289) : pm_CT mi_X5_outcome [.ref 1, .int (nI j), .int dy] μ (fun v μ2 => v = some (.int (lr_oc g j dy)) ∧ μ2 = μ) pm_NX := by
  refine pm_CT_of (lo := [some (.ref 1), some (.int (nI j)), some (.int dy), none]) (by decide +kernel) rfl rfl (by intro v hv; simp at hv; rcases hv with rfl | rfl | rfl <;> rfl) (Nat.le_of_ble_eq_true rfl) rfl ?_
  have hm1 := lr_mh hG; have hm2 := lr_mw hG; have hm3 := lr_mp hG; have hm4 := lr_mr hG; have hm5 := lr_ma hG; have hm6 := lr_ml hG
  obtain ⟨⟨p, hp1, hp2⟩, -⟩ := lr_G_l hG hj
  have hpn : lr_n g (290 + 11 * j) = p := by unfold lr_n; rw [hp1, nI_clamp (by omega)]
  have hbe : lr_be (nI p) (nI (lr_n g 35)) = true := by rw [lr_be_nI (by omega) (by omega)]; exact decide_eq_true hp2
  refine pm_bl [(.aload_n 0, 1, 0, 0, 0), (.getfield 49, 3, 5, 5, 0), (.getfield 128, 3, 4, 2, 0), (.iload_n 1, 1, 1, 0, 0), (.iaload, 1, 0, 0, 0)] (pc1 := 9) (lo1 := [some (.ref 1), some (.int (nI j)), some (.int dy), none]) (st1 := [.int (μ.1 27 (nI j).toNatClampNeg)]) (μ1 := μ) (vc := vp_in (nI j) 30 ∧ True) rfl (by decide +kernel) rfl ⟨(vp_in_nI (by omega) (by omega)), trivial⟩ ?_
  first | rw [nI_clamp (n := j) (by omega), lr_rlpe hR (i := j) hj, hp1] | rw [lr_rlpe hR (i := j) hj, hp1]
  refine pm_bl [(.istore_n 3, 1, 3, 0, 0), (.iload_n 3, 1, 3, 0, 0), (.aload_n 0, 1, 0, 0, 0), (.getfield 21, 3, 5, 1, 0), (.getfield 108, 3, 6, 0, 0)] (pc1 := 18) (lo1 := [some (.ref 1), some (.int (nI j)), some (.int dy), some (.int (nI p))]) (st1 := [.int (μ.1 5 0), .int (nI p)]) (μ1 := μ) (vc := True) rfl (by decide +kernel) rfl trivial ?_
  rw [lr_rNp hR, lr_gp hG]
  refine pm_callSN2 mi_X9_isBelow (ix := 83) (host := RX9) (kc2 := 0) (ks2 := 0) (As := [.int (nI p), .int (nI (lr_n g 35))]) (rest := []) (c_X9_isBelow (nI p) (nI (lr_n g 35)) μ) cal_X9_isBelow (by decide +kernel) (by decide +kernel) (by decide +kernel) rfl rfl (Nat.le_of_ble_eq_true rfl) (by decide) (by decide) ?_
  rintro _ _ ⟨rfl, h9⟩; rw [h9]; clear h9
  rw [hbe]
  show pm_V _ _ _ _ 21 _ [.int 1] _
  refine pm_if_eq (off := 16) 37 (by decide +kernel) (by decide) (fun h9 => absurd h9 (by decide)) (fun _ => ?_)
  refine pm_bl [(.aload_n 0, 1, 0, 0, 0), (.getfield 21, 3, 5, 1, 0), (.getfield 131, 3, 6, 2, 0), (.iload_n 3, 1, 3, 0, 0), (.iaload, 1, 0, 0, 0), (.iload_n 2, 1, 2, 0, 0)] (pc1 := 34) (lo1 := [some (.ref 1), some (.int (nI j)), some (.int dy), some (.int (nI p))]) (st1 := [.int dy, .int (μ.1 7 (nI p).toNatClampNeg)]) (μ1 := μ) (vc := vp_in (nI p) 20 ∧ True) rfl (by decide +kernel) rfl ⟨(vp_in_nI (by omega) (by omega)), trivial⟩ ?_
  first | rw [nI_clamp (n := p) (by omega), lr_rphe hR (i := p) hp2] | rw [lr_rphe hR (i := p) hp2]
  refine pm_icmp_lt (off := 5) 39 (by decide +kernel) (by decide) (fun (h34 : (g (37 + 4 * p)) < dy) => ?_) (fun (h34 : ¬ ((g (37 + 4 * p)) < dy)) => ?_)
  · refine pm_bl [(.aload_n 0, 1, 0, 0, 0), (.aload_n 0, 1, 0, 0, 0), (.iload_n 3, 1, 3, 0, 0), (.iload_n 2, 1, 2, 0, 0)] (pc1 := 43) (lo1 := [some (.ref 1), some (.int (nI j)), some (.int dy), some (.int (nI p))]) (st1 := [.int dy, .int (nI p), .ref 1, .ref 1]) (μ1 := μ) (vc := True) rfl (by decide +kernel) rfl trivial ?_
    refine pm_callV2 mi_X5_endOfWay (ix := 119) (b := 1) (ci := 5) (kc2 := 0) (ks2 := 0) (As := [.int (nI p), .int dy]) (rest := [.ref 1]) (c_X5_endOfWay (p := p) dy μ hR hG (by omega)) cal_X5_endOfWay lk5_119 (by decide +kernel) rfl (by decide +kernel) rfl rfl rfl rfl (Nat.le_of_ble_eq_true rfl) (by decide) (by decide) (fun _ _ h9 => h9.elim) ?_
    rintro _ _ ⟨rfl, h9⟩; rw [h9]; clear h9
    obtain ⟨e43, he43, hf43⟩ := lr_we_ok hG (p := p) (by omega) dy
    rw [he43]
    show pm_V _ _ _ _ 46 _ [.int (nI e43), .ref 1] _
    refine pm_callV2 mi_X5_walkServing (ix := 97) (b := 1) (ci := 5) (kc2 := 0) (ks2 := 0) (As := [.int (nI e43)]) (rest := []) (c_X5_walkServing (h := e43) μ hR hG (by omega)) cal_X5_walkServing lk5_97 (by decide +kernel) rfl (by decide +kernel) rfl rfl rfl rfl (Nat.le_of_ble_eq_true rfl) (by decide) (by decide) (fun _ _ h9 => h9.elim) ?_
    rintro _ _ ⟨rfl, h9⟩; rw [h9]; clear h9
    show pm_V _ _ _ _ 49 _ [.int (lr_sv g e43)] _
    refine pm_bl [(.iconst (-1), 1, 0, 0, (-1))] (pc1 := 50) (lo1 := [some (.ref 1), some (.int (nI j)), some (.int dy), some (.int (nI p))]) (st1 := [.int (-1), .int (lr_sv g e43)]) (μ1 := μ) (vc := True) rfl (by decide +kernel) rfl trivial ?_
    refine pm_icmp_ne (off := 5) 55 (by decide +kernel) (by decide) (fun (h50 : ¬ (lr_sv g e43) = (-1)) => ?_) (fun (h50 : (lr_sv g e43) = (-1)) => ?_)
    · refine pm_bl [(.aload_n 0, 1, 0, 0, 0), (.getfield 49, 3, 5, 5, 0), (.getfield 134, 3, 4, 3, 0), (.iload_n 1, 1, 1, 0, 0), (.iaload, 1, 0, 0, 0), (.aload_n 0, 1, 0, 0, 0), (.getfield 21, 3, 5, 1, 0), (.getfield 137, 3, 6, 3, 0), (.iload_n 3, 1, 3, 0, 0), (.iaload, 1, 0, 0, 0)] (pc1 := 73) (lo1 := [some (.ref 1), some (.int (nI j)), some (.int dy), some (.int (nI p))]) (st1 := [.int (μ.1 8 (nI p).toNatClampNeg), .int (μ.1 28 (nI j).toNatClampNeg)]) (μ1 := μ) (vc := vp_in (nI j) 30 ∧ vp_in (nI p) 20 ∧ True) rfl (by decide +kernel) rfl ⟨(vp_in_nI (by omega) (by omega)), (vp_in_nI (by omega) (by omega)), trivial⟩ ?_
      first | rw [nI_clamp (n := j) (by omega), lr_rlwe hR (i := j) hj] | rw [lr_rlwe hR (i := j) hj]
      first | rw [nI_clamp (n := p) (by omega), lr_rpli hR (i := p) hp2] | rw [lr_rpli hR (i := p) hp2]
      refine pm_icmp_le (off := 5) 78 (by decide +kernel) (by decide) (fun (h73 : (g (291 + 11 * j)) ≤ (g (38 + 4 * p))) => ?_) (fun (h73 : ¬ ((g (291 + 11 * j)) ≤ (g (38 + 4 * p)))) => ?_)
      · refine pm_bl [(.aload_n 0, 1, 0, 0, 0), (.getfield 49, 3, 5, 5, 0), (.getfield 140, 3, 4, 4, 0), (.iload_n 1, 1, 1, 0, 0), (.iaload, 1, 0, 0, 0)] (pc1 := 87) (lo1 := [some (.ref 1), some (.int (nI j)), some (.int dy), some (.int (nI p))]) (st1 := [.int (μ.1 29 (nI j).toNatClampNeg)]) (μ1 := μ) (vc := vp_in (nI j) 30 ∧ True) rfl (by decide +kernel) rfl ⟨(vp_in_nI (by omega) (by omega)), trivial⟩ ?_
        first | rw [nI_clamp (n := j) (by omega), lr_rlre hR (i := j) hj] | rw [lr_rlre hR (i := j) hj]
        refine pm_if_eq (off := 13) 100 (by decide +kernel) (by decide) (fun (h87 : (g (292 + 11 * j)) = 0) => ?_) (fun (h87 : ¬ ((g (292 + 11 * j)) = 0)) => ?_)
        · refine pm_bl [(.iconst 5, 1, 0, 0, 5)] (pc1 := 101) (lo1 := [some (.ref 1), some (.int (nI j)), some (.int dy), some (.int (nI p))]) (st1 := [.int 5]) (μ1 := μ) (vc := True) rfl (by decide +kernel) rfl trivial ?_
          exact pm_iret (ty := .int) rfl rfl (by decide) (by decide) (by decide +kernel) (⟨by clear hbe; rw [lr_oc, hpn]; first | (rw [if_pos (by simpa using h34)]; done) | (rw [if_neg (by simpa using h34), he43, nI_clamp (by omega)]; simp_all), rfl⟩)
        · refine pm_bl [(.aload_n 0, 1, 0, 0, 0), (.iload_n 3, 1, 3, 0, 0), (.iload_n 2, 1, 2, 0, 0)] (pc1 := 93) (lo1 := [some (.ref 1), some (.int (nI j)), some (.int dy), some (.int (nI p))]) (st1 := [.int dy, .int (nI p), .ref 1]) (μ1 := μ) (vc := True) rfl (by decide +kernel) rfl trivial ?_
          refine pm_callV2 mi_X5_whoSigns (ix := 143) (b := 1) (ci := 5) (kc2 := 0) (ks2 := 0) (As := [.int (nI p), .int dy]) (rest := []) (c_X5_whoSigns (p := p) dy μ hR hG (by omega)) cal_X5_whoSigns lk5_143 (by decide +kernel) rfl (by decide +kernel) rfl rfl rfl rfl (Nat.le_of_ble_eq_true rfl) (by decide) (by decide) (fun _ _ h9 => h9.elim) ?_
          rintro _ _ ⟨rfl, h9⟩; rw [h9]; clear h9
          show pm_V _ _ _ _ 96 _ [.int (lr_sg g p dy)] _
          refine pm_bl [(.iconst (-1), 1, 0, 0, (-1))] (pc1 := 97) (lo1 := [some (.ref 1), some (.int (nI j)), some (.int dy), some (.int (nI p))]) (st1 := [.int (-1), .int (lr_sg g p dy)]) (μ1 := μ) (vc := True) rfl (by decide +kernel) rfl trivial ?_
          refine pm_icmp_eq (off := 5) 102 (by decide +kernel) (by decide) (fun (h97 : (lr_sg g p dy) = (-1)) => ?_) (fun (h97 : ¬ ((lr_sg g p dy) = (-1))) => ?_)
          · refine pm_bl [(.iconst 3, 1, 0, 0, 3)] (pc1 := 103) (lo1 := [some (.ref 1), some (.int (nI j)), some (.int dy), some (.int (nI p))]) (st1 := [.int 3]) (μ1 := μ) (vc := True) rfl (by decide +kernel) rfl trivial ?_
            exact pm_iret (ty := .int) rfl rfl (by decide) (by decide) (by decide +kernel) (⟨by clear hbe; rw [lr_oc, hpn]; first | (rw [if_pos (by simpa using h34)]; done) | (rw [if_neg (by simpa using h34), he43, nI_clamp (by omega)]; simp_all), rfl⟩)
          · refine pm_bl [(.iconst 5, 1, 0, 0, 5)] (pc1 := 101) (lo1 := [some (.ref 1), some (.int (nI j)), some (.int dy), some (.int (nI p))]) (st1 := [.int 5]) (μ1 := μ) (vc := True) rfl (by decide +kernel) rfl trivial ?_
            exact pm_iret (ty := .int) rfl rfl (by decide) (by decide) (by decide +kernel) (⟨by clear hbe; rw [lr_oc, hpn]; first | (rw [if_pos (by simpa using h34)]; done) | (rw [if_neg (by simpa using h34), he43, nI_clamp (by omega)]; simp_all), rfl⟩)
      · refine pm_bl [(.iconst 2, 1, 0, 0, 2)] (pc1 := 77) (lo1 := [some (.ref 1), some (.int (nI j)), some (.int dy), some (.int (nI p))]) (st1 := [.int 2]) (μ1 := μ) (vc := True) rfl (by decide +kernel) rfl trivial ?_
        exact pm_iret (ty := .int) rfl rfl (by decide) (by decide) (by decide +kernel) (⟨by clear hbe; rw [lr_oc, hpn]; first | (rw [if_pos (by simpa using h34)]; done) | (rw [if_neg (by simpa using h34), he43, nI_clamp (by omega)]; simp_all), rfl⟩)
    · refine pm_bl [(.iconst 1, 1, 0, 0, 1)] (pc1 := 54) (lo1 := [some (.ref 1), some (.int (nI j)), some (.int dy), some (.int (nI p))]) (st1 := [.int 1]) (μ1 := μ) (vc := True) rfl (by decide +kernel) rfl trivial ?_
      exact pm_iret (ty := .int) rfl rfl (by decide) (by decide) (by decide +kernel) (⟨by clear hbe; rw [lr_oc, hpn]; first | (rw [if_pos (by simpa using h34)]; done) | (rw [if_neg (by simpa using h34), he43, nI_clamp (by omega)]; simp_all), rfl⟩)
  · refine pm_bl [(.iconst 0, 1, 0, 0, 0)] (pc1 := 38) (lo1 := [some (.ref 1), some (.int (nI j)), some (.int dy), some (.int (nI p))]) (st1 := [.int 0]) (μ1 := μ) (vc := True) rfl (by decide +kernel) rfl trivial ?_
    exact pm_iret (ty := .int) rfl rfl (by decide) (by decide) (by decide +kernel) (⟨by clear hbe; rw [lr_oc, hpn]; first | (rw [if_pos (by simpa using h34)]; done) | (rw [if_neg (by simpa using h34), he43, nI_clamp (by omega)]; simp_all), rfl⟩)
def lr_old (g : Nat → Int32) (l : Nat) (day : Int32) : Bool := !(decide (day - g (293 + 11 * l) < 30))
set_option maxHeartbeats 4000000 in
set_option maxRecDepth 100000 in
theorem c_X5_isTooOld {g : Nat → Int32} {j : Nat} (dy : Int32) (μ : pm_Mm) (hR : lr_Rel μ.1 1 g) (hG : lr_G g) (hj : j < lr_n g 289) : pm_CT mi_X5_isTooOld [.ref 1, .int (nI j), .int dy] μ (fun v μ2 => v = some (.int (lr_b (lr_old g j dy))) ∧ μ2 = μ) pm_NX := by
  refine pm_CT_of (lo := [some (.ref 1), some (.int (nI j)), some (.int dy)]) (by decide +kernel) rfl rfl (by intro v hv; simp at hv; rcases hv with rfl | rfl | rfl <;> rfl) (Nat.le_of_ble_eq_true rfl) rfl ?_
  have hm1 := lr_mh hG; have hm2 := lr_mw hG; have hm3 := lr_mp hG; have hm4 := lr_mr hG; have hm5 := lr_ma hG; have hm6 := lr_ml hG
  refine pm_bl [(.iload_n 2, 1, 2, 0, 0), (.aload_n 0, 1, 0, 0, 0), (.getfield 49, 3, 5, 5, 0), (.getfield 146, 3, 4, 5, 0), (.iload_n 1, 1, 1, 0, 0), (.iaload, 1, 0, 0, 0), (.isub, 1, 0, 0, 0), (.bipush 30, 2, 0, 0, 30)] (pc1 := 13) (lo1 := [some (.ref 1), some (.int (nI j)), some (.int dy)]) (st1 := [.int 30, .int (dy - (μ.1 30 (nI j).toNatClampNeg))]) (μ1 := μ) (vc := vp_in (nI j) 30 ∧ True) rfl (by decide +kernel) rfl ⟨(vp_in_nI (by omega) (by omega)), trivial⟩ ?_
  first | rw [nI_clamp (n := j) (by omega), lr_rlca hR (i := j) hj] | rw [lr_rlca hR (i := j) hj]
  refine pm_icmp_lt (off := 7) 20 (by decide +kernel) (by decide) (fun (h13 : (dy - (g (293 + 11 * j))) < 30) => ?_) (fun (h13 : ¬ ((dy - (g (293 + 11 * j))) < 30)) => ?_)
  · refine pm_bl [(.iconst 0, 1, 0, 0, 0)] (pc1 := 21) (lo1 := [some (.ref 1), some (.int (nI j)), some (.int dy)]) (st1 := [.int 0]) (μ1 := μ) (vc := True) rfl (by decide +kernel) rfl trivial ?_
    exact pm_iret (ty := .boolean) rfl (rfl) (by decide) (by decide) (by decide +kernel) (⟨by congr 2; simp_all [lr_old, lr_b], rfl⟩)
  · refine pm_bl [(.iconst 1, 1, 0, 0, 1), (.goto 4, 3, 21, 0, 0)] (pc1 := 21) (lo1 := [some (.ref 1), some (.int (nI j)), some (.int dy)]) (st1 := [.int 1]) (μ1 := μ) (vc := True) rfl (by decide +kernel) rfl trivial ?_
    exact pm_iret (ty := .boolean) rfl (rfl) (by decide) (by decide) (by decide +kernel) (⟨by congr 2; simp_all [lr_old, lr_b], rfl⟩)
/-- whether one comes back to s within n steps from h, without the redirect sk -/
def lr_cb (g : Nat → Int32) (s day sk : Int32) : Nat → Int32 → Bool
  | 0, _ => false
  | n + 1, h => if h = -1 then false else if lr_tgo g 1 h day sk = s then true else lr_cb g s day sk n (lr_tgo g 1 h day sk)
def lr_crd (g : Nat → Int32) (day sk : Int32) : Bool := lr_any (fun i => !(decide (nI i = sk)) && (decide (g (168 + 5 * i) = 1) && lr_cb g (g (169 + 5 * i)) day sk 16 (g (169 + 5 * i)))) (lr_n g 167) 0
def lr_crw (g : Nat → Int32) (sk : Int32) : Bool := lr_any (fun i => lr_crd g (g (171 + 5 * i)) sk || lr_crd g (g (172 + 5 * i) + 1) sk) (lr_n g 167) 0
set_option maxHeartbeats 4000000 in
set_option maxRecDepth 100000 in
theorem l_X7_comesBack {g : Nat → Int32} (s0 dy sk : Int32) (μ : pm_Mm) (hR : lr_Rel μ.1 1 g) (hG : lr_G g) : ∀ n k : Nat, ∀ x : Int32, k + n = 16 → lr_cb g s0 dy sk 16 s0 = lr_cb g s0 dy sk n x → pm_V mi_X7_comesBack ((fun v μ2 => v = some (.int (lr_b (lr_cb g s0 dy sk 16 s0))) ∧ μ2 = μ), pm_NX, fun _ _ _ => True) 0 0 6 [some (.ref 16), some (.int s0), some (.int dy), some (.int sk), some (.int x), some (.int (nI k))] [] μ := by
  have hm1 := lr_mh hG; have hm2 := lr_mw hG; have hm3 := lr_mp hG; have hm4 := lr_mr hG; have hm5 := lr_ma hG; have hm6 := lr_ml hG
  intro n
  induction n with
  | zero =>
    intro k x hk he
    refine pm_bl [(.iload 5, 2, 5, 0, 0), (.bipush 16, 2, 0, 0, 16)] (pc1 := 10) (lo1 := [some (.ref 16), some (.int s0), some (.int dy), some (.int sk), some (.int x), some (.int (nI k))]) (st1 := [.int 16, .int (nI k)]) (μ1 := μ) (vc := True) rfl (by decide +kernel) rfl trivial ?_
    refine pm_icmp_ge (off := 34) 44 (by decide +kernel) (by decide) (fun (h10 : 16 ≤ (nI k)) => ?_) (fun (h9 : ¬ (16 ≤ (nI k))) => absurd (nI_le (a := 16) (by omega) (by omega)) h9)
    refine pm_bl [(.iconst 0, 1, 0, 0, 0)] (pc1 := 45) (lo1 := [some (.ref 16), some (.int s0), some (.int dy), some (.int sk), some (.int x), some (.int (nI k))]) (st1 := [.int 0]) (μ1 := μ) (vc := True) rfl (by decide +kernel) rfl trivial ?_
    exact pm_iret (ty := .boolean) rfl (rfl) (by decide) (by decide) (by decide +kernel) (⟨by rw [he]; rfl, rfl⟩)
  | succ n ih =>
    intro k x hk he
    refine pm_bl [(.iload 5, 2, 5, 0, 0), (.bipush 16, 2, 0, 0, 16)] (pc1 := 10) (lo1 := [some (.ref 16), some (.int s0), some (.int dy), some (.int sk), some (.int x), some (.int (nI k))]) (st1 := [.int 16, .int (nI k)]) (μ1 := μ) (vc := True) rfl (by decide +kernel) rfl trivial ?_
    refine pm_icmp_ge (off := 34) 44 (by decide +kernel) (by decide) (fun (h9 : 16 ≤ (nI k)) => absurd h9 (nI_ge (b := 16) (by omega) (by omega))) (fun (h10 : ¬ (16 ≤ (nI k))) => ?_)
    refine pm_bl [(.iload 4, 2, 4, 0, 0), (.iconst (-1), 1, 0, 0, (-1))] (pc1 := 16) (lo1 := [some (.ref 16), some (.int s0), some (.int dy), some (.int sk), some (.int x), some (.int (nI k))]) (st1 := [.int (-1), .int x]) (μ1 := μ) (vc := True) rfl (by decide +kernel) rfl trivial ?_
    refine pm_icmp_eq (off := 28) 44 (by decide +kernel) (by decide) (fun (h16 : x = (-1)) => ?_) (fun (h16 : ¬ (x = (-1))) => ?_)
    · refine pm_bl [(.iconst 0, 1, 0, 0, 0)] (pc1 := 45) (lo1 := [some (.ref 16), some (.int s0), some (.int dy), some (.int sk), some (.int x), some (.int (nI k))]) (st1 := [.int 0]) (μ1 := μ) (vc := True) rfl (by decide +kernel) rfl trivial ?_
      exact pm_iret (ty := .boolean) rfl (rfl) (by decide) (by decide) (by decide +kernel) (⟨by rw [he]; simp only [lr_cb]; first | (rw [if_pos h16]; rfl) | (rw [if_neg h16, if_pos h33]; rfl), rfl⟩)
    · refine pm_bl [(.aload_n 0, 1, 0, 0, 0), (.iconst 1, 1, 0, 0, 1), (.iload 4, 2, 4, 0, 0), (.iload_n 2, 1, 2, 0, 0), (.iload_n 3, 1, 3, 0, 0)] (pc1 := 25) (lo1 := [some (.ref 16), some (.int s0), some (.int dy), some (.int sk), some (.int x), some (.int (nI k))]) (st1 := [.int sk, .int dy, .int x, .int 1, .ref 16]) (μ1 := μ) (vc := True) rfl (by decide +kernel) rfl trivial ?_
      refine pm_callV2 mi_X7_targetOf (ix := 58) (b := 16) (ci := 7) (kc2 := 0) (ks2 := 0) (As := [.int 1, .int x, .int dy, .int sk]) (rest := []) (c_X7_targetOf 1 x dy sk μ hR hG) cal_X7_targetOf lk7_58 (by decide +kernel) rfl (by decide +kernel) rfl rfl rfl rfl (Nat.le_of_ble_eq_true rfl) (by decide) (by decide) (fun _ _ h9 => h9.elim) ?_
      rintro _ _ ⟨rfl, h9⟩; rw [h9]; clear h9
      show pm_V _ _ _ _ 28 _ [.int (lr_tgo g 1 x dy sk)] _
      refine pm_bl [(.istore 4, 2, 4, 0, 0), (.iload 4, 2, 4, 0, 0), (.iload_n 1, 1, 1, 0, 0)] (pc1 := 33) (lo1 := [some (.ref 16), some (.int s0), some (.int dy), some (.int sk), some (.int (lr_tgo g 1 x dy sk)), some (.int (nI k))]) (st1 := [.int s0, .int (lr_tgo g 1 x dy sk)]) (μ1 := μ) (vc := True) rfl (by decide +kernel) rfl trivial ?_
      refine pm_icmp_ne (off := 5) 38 (by decide +kernel) (by decide) (fun (h33 : ¬ (lr_tgo g 1 x dy sk) = s0) => ?_) (fun (h33 : (lr_tgo g 1 x dy sk) = s0) => ?_)
      · refine pm_bl [(.iinc 5 1, 3, 5, 0, 1), (.goto (-35), 3, 6, 0, 0)] (pc1 := 6) (lo1 := [some (.ref 16), some (.int s0), some (.int dy), some (.int sk), some (.int (lr_tgo g 1 x dy sk)), some (.int ((nI k) + 1))]) (st1 := []) (μ1 := μ) (vc := True) rfl (by decide +kernel) rfl trivial ?_
        rw [nI_1]; exact ih (k + 1) _ (by omega) (by rw [he]; simp only [lr_cb]; rw [if_neg h16, if_neg h33])
      · refine pm_bl [(.iconst 1, 1, 0, 0, 1)] (pc1 := 37) (lo1 := [some (.ref 16), some (.int s0), some (.int dy), some (.int sk), some (.int (lr_tgo g 1 x dy sk)), some (.int (nI k))]) (st1 := [.int 1]) (μ1 := μ) (vc := True) rfl (by decide +kernel) rfl trivial ?_
        exact pm_iret (ty := .boolean) rfl (rfl) (by decide) (by decide) (by decide +kernel) (⟨by rw [he]; simp only [lr_cb]; first | (rw [if_pos h16]; rfl) | (rw [if_neg h16, if_pos h33]; rfl), rfl⟩)
set_option maxHeartbeats 4000000 in
set_option maxRecDepth 100000 in
theorem c_X7_comesBack {g : Nat → Int32} (s0 dy sk : Int32) (μ : pm_Mm) (hR : lr_Rel μ.1 1 g) (hG : lr_G g) : pm_CT mi_X7_comesBack [.ref 16, .int s0, .int dy, .int sk] μ (fun v μ2 => v = some (.int (lr_b (lr_cb g s0 dy sk 16 s0))) ∧ μ2 = μ) pm_NX := by
  refine pm_CT_of (lo := [some (.ref 16), some (.int s0), some (.int dy), some (.int sk), none, none]) (by decide +kernel) rfl rfl (by intro v hv; simp at hv; rcases hv with rfl | rfl | rfl | rfl <;> rfl) (Nat.le_of_ble_eq_true rfl) rfl ?_
  refine pm_bl [(.iload_n 1, 1, 1, 0, 0), (.istore 4, 2, 4, 0, 0), (.iconst 0, 1, 0, 0, 0), (.istore 5, 2, 5, 0, 0)] (pc1 := 6) (lo1 := [some (.ref 16), some (.int s0), some (.int dy), some (.int sk), some (.int s0), some (.int 0)]) (st1 := []) (μ1 := μ) (vc := True) rfl (by decide +kernel) rfl trivial ?_
  exact l_X7_comesBack s0 dy sk μ hR hG 16 0 _ (by omega) rfl
set_option maxHeartbeats 4000000 in
set_option maxRecDepth 100000 in
theorem l_X7_leadRoundOn {g : Nat → Int32} (dy sk : Int32) (μ : pm_Mm) (hR : lr_Rel μ.1 1 g) (hG : lr_G g) : ∀ n k : Nat, k + n = lr_n g 167 → lr_crd g dy sk = lr_any (fun i => !(decide (nI i = sk)) && (decide (g (168 + 5 * i) = 1) && lr_cb g (g (169 + 5 * i)) dy sk 16 (g (169 + 5 * i)))) n k → pm_V mi_X7_leadRoundOn ((fun v μ2 => v = some (.int (lr_b (lr_crd g dy sk))) ∧ μ2 = μ), pm_NX, fun _ _ _ => True) 0 0 2 [some (.ref 16), some (.int dy), some (.int sk), some (.int (nI k))] [] μ := by
  have hm1 := lr_mh hG; have hm2 := lr_mw hG; have hm3 := lr_mp hG; have hm4 := lr_mr hG; have hm5 := lr_ma hG; have hm6 := lr_ml hG
  intro n
  induction n with
  | zero =>
    intro k hk he
    refine pm_bl [(.iload_n 3, 1, 3, 0, 0), (.aload_n 0, 1, 0, 0, 0), (.getfield 9, 3, 7, 0, 0)] (pc1 := 7) (lo1 := [some (.ref 16), some (.int dy), some (.int sk), some (.int (nI k))]) (st1 := [.int (μ.1 16 0), .int (nI k)]) (μ1 := μ) (vc := True) rfl (by decide +kernel) rfl trivial ?_
    rw [lr_rNr hR, lr_gr hG]
    refine pm_icmp_ge (off := 41) 48 (by decide +kernel) (by decide) (fun (h7 : (nI (lr_n g 167)) ≤ (nI k)) => ?_) (fun (h9 : ¬ ((nI (lr_n g 167)) ≤ (nI k))) => absurd (nI_le (by omega) (by omega)) h9)
    refine pm_bl [(.iconst 0, 1, 0, 0, 0)] (pc1 := 49) (lo1 := [some (.ref 16), some (.int dy), some (.int sk), some (.int (nI k))]) (st1 := [.int 0]) (μ1 := μ) (vc := True) rfl (by decide +kernel) rfl trivial ?_
    exact pm_iret (ty := .boolean) rfl (rfl) (by decide) (by decide) (by decide +kernel) (⟨by rw [he]; rfl, rfl⟩)
  | succ n ih =>
    intro k hk he
    refine pm_bl [(.iload_n 3, 1, 3, 0, 0), (.aload_n 0, 1, 0, 0, 0), (.getfield 9, 3, 7, 0, 0)] (pc1 := 7) (lo1 := [some (.ref 16), some (.int dy), some (.int sk), some (.int (nI k))]) (st1 := [.int (μ.1 16 0), .int (nI k)]) (μ1 := μ) (vc := True) rfl (by decide +kernel) rfl trivial ?_
    rw [lr_rNr hR, lr_gr hG]
    refine pm_icmp_ge (off := 41) 48 (by decide +kernel) (by decide) (fun (h9 : (nI (lr_n g 167)) ≤ (nI k)) => absurd h9 (nI_ge (by omega) (by omega))) (fun (h7 : ¬ ((nI (lr_n g 167)) ≤ (nI k))) => ?_)
    refine pm_bl [(.iload_n 3, 1, 3, 0, 0), (.iload_n 2, 1, 2, 0, 0)] (pc1 := 12) (lo1 := [some (.ref 16), some (.int dy), some (.int sk), some (.int (nI k))]) (st1 := [.int sk, .int (nI k)]) (μ1 := μ) (vc := True) rfl (by decide +kernel) rfl trivial ?_
    refine pm_icmp_eq (off := 30) 42 (by decide +kernel) (by decide) (fun (h12 : (nI k) = sk) => ?_) (fun (h12 : ¬ ((nI k) = sk)) => ?_)
    · refine pm_bl [(.iinc 3 1, 3, 3, 0, 1), (.goto (-43), 3, 2, 0, 0)] (pc1 := 2) (lo1 := [some (.ref 16), some (.int dy), some (.int sk), some (.int ((nI k) + 1))]) (st1 := []) (μ1 := μ) (vc := True) rfl (by decide +kernel) rfl trivial ?_
      rw [nI_1]; exact ih (k + 1) (by omega) (by rw [he]; simp only [lr_any]; rw [if_neg (by simp_all)])
    · refine pm_bl [(.aload_n 0, 1, 0, 0, 0), (.getfield 15, 3, 7, 1, 0), (.iload_n 3, 1, 3, 0, 0), (.iaload, 1, 0, 0, 0), (.iconst 1, 1, 0, 0, 1)] (pc1 := 22) (lo1 := [some (.ref 16), some (.int dy), some (.int sk), some (.int (nI k))]) (st1 := [.int 1, .int (μ.1 17 (nI k).toNatClampNeg)]) (μ1 := μ) (vc := vp_in (nI k) 12 ∧ True) rfl (by decide +kernel) rfl ⟨(vp_in_nI (by omega) (by omega)), trivial⟩ ?_
      first | rw [nI_clamp (n := k) (by omega), lr_rrki hR (i := k) (by omega)] | rw [lr_rrki hR (i := k) (by omega)]
      refine pm_icmp_ne (off := 20) 42 (by decide +kernel) (by decide) (fun (h22 : ¬ (g (168 + 5 * k)) = 1) => ?_) (fun (h22 : (g (168 + 5 * k)) = 1) => ?_)
      · refine pm_bl [(.iinc 3 1, 3, 3, 0, 1), (.goto (-43), 3, 2, 0, 0)] (pc1 := 2) (lo1 := [some (.ref 16), some (.int dy), some (.int sk), some (.int ((nI k) + 1))]) (st1 := []) (μ1 := μ) (vc := True) rfl (by decide +kernel) rfl trivial ?_
        rw [nI_1]; exact ih (k + 1) (by omega) (by rw [he]; simp only [lr_any]; rw [if_neg (by simp_all)])
      · refine pm_bl [(.aload_n 0, 1, 0, 0, 0), (.aload_n 0, 1, 0, 0, 0), (.getfield 19, 3, 7, 2, 0), (.iload_n 3, 1, 3, 0, 0), (.iaload, 1, 0, 0, 0), (.iload_n 1, 1, 1, 0, 0), (.iload_n 2, 1, 2, 0, 0)] (pc1 := 34) (lo1 := [some (.ref 16), some (.int dy), some (.int sk), some (.int (nI k))]) (st1 := [.int sk, .int dy, .int (μ.1 18 (nI k).toNatClampNeg), .ref 16]) (μ1 := μ) (vc := vp_in (nI k) 12 ∧ True) rfl (by decide +kernel) rfl ⟨(vp_in_nI (by omega) (by omega)), trivial⟩ ?_
        first | rw [nI_clamp (n := k) (by omega), lr_rrso hR (i := k) (by omega)] | rw [lr_rrso hR (i := k) (by omega)]
        refine pm_callV2 mi_X7_comesBack (ix := 55) (b := 16) (ci := 7) (kc2 := 0) (ks2 := 0) (As := [.int (g (169 + 5 * k)), .int dy, .int sk]) (rest := []) (c_X7_comesBack (g (169 + 5 * k)) dy sk μ hR hG) cal_X7_comesBack lk7_55 (by decide +kernel) rfl (by decide +kernel) rfl rfl rfl rfl (Nat.le_of_ble_eq_true rfl) (by decide) (by decide) (fun _ _ h9 => h9.elim) ?_
        rintro _ _ ⟨rfl, h9⟩; rw [h9]; clear h9
        show pm_V _ _ _ _ 37 _ [.int (lr_b (lr_cb g (g (169 + 5 * k)) dy sk 16 (g (169 + 5 * k))))] _
        refine pm_ifb_eq (off := 5) 42 (by decide +kernel) (by decide) (fun (h37 : (lr_cb g (g (169 + 5 * k)) dy sk 16 (g (169 + 5 * k))) = false) => ?_) (fun (h37 : (lr_cb g (g (169 + 5 * k)) dy sk 16 (g (169 + 5 * k))) = true) => ?_)
        · refine pm_bl [(.iinc 3 1, 3, 3, 0, 1), (.goto (-43), 3, 2, 0, 0)] (pc1 := 2) (lo1 := [some (.ref 16), some (.int dy), some (.int sk), some (.int ((nI k) + 1))]) (st1 := []) (μ1 := μ) (vc := True) rfl (by decide +kernel) rfl trivial ?_
          rw [nI_1]; exact ih (k + 1) (by omega) (by rw [he]; simp only [lr_any]; rw [if_neg (by simp_all)])
        · refine pm_bl [(.iconst 1, 1, 0, 0, 1)] (pc1 := 41) (lo1 := [some (.ref 16), some (.int dy), some (.int sk), some (.int (nI k))]) (st1 := [.int 1]) (μ1 := μ) (vc := True) rfl (by decide +kernel) rfl trivial ?_
          exact pm_iret (ty := .boolean) rfl (rfl) (by decide) (by decide) (by decide +kernel) (⟨by rw [he]; simp only [lr_any]; rw [if_pos (by simp_all)]; rfl, rfl⟩)
set_option maxHeartbeats 4000000 in
set_option maxRecDepth 100000 in
theorem c_X7_leadRoundOn {g : Nat → Int32} (dy sk : Int32) (μ : pm_Mm) (hR : lr_Rel μ.1 1 g) (hG : lr_G g) : pm_CT mi_X7_leadRoundOn [.ref 16, .int dy, .int sk] μ (fun v μ2 => v = some (.int (lr_b (lr_crd g dy sk))) ∧ μ2 = μ) pm_NX := by
  refine pm_CT_of (lo := [some (.ref 16), some (.int dy), some (.int sk), none]) (by decide +kernel) rfl rfl (by intro v hv; simp at hv; rcases hv with rfl | rfl | rfl <;> rfl) (Nat.le_of_ble_eq_true rfl) rfl ?_
  refine pm_bl [(.iconst 0, 1, 0, 0, 0), (.istore_n 3, 1, 3, 0, 0)] (pc1 := 2) (lo1 := [some (.ref 16), some (.int dy), some (.int sk), some (.int 0)]) (st1 := []) (μ1 := μ) (vc := True) rfl (by decide +kernel) rfl trivial ?_
  exact l_X7_leadRoundOn dy sk μ hR hG (lr_n g 167) 0 (Nat.zero_add _) rfl
set_option maxHeartbeats 4000000 in
set_option maxRecDepth 100000 in
theorem l_X7_leadRoundWithout {g : Nat → Int32} (sk : Int32) (μ : pm_Mm) (hR : lr_Rel μ.1 1 g) (hG : lr_G g) : ∀ n k : Nat, k + n = lr_n g 167 → lr_crw g sk = lr_any (fun i => lr_crd g (g (171 + 5 * i)) sk || lr_crd g (g (172 + 5 * i) + 1) sk) n k → pm_V mi_X7_leadRoundWithout ((fun v μ2 => v = some (.int (lr_b (lr_crw g sk))) ∧ μ2 = μ), pm_NX, fun _ _ _ => True) 0 0 2 [some (.ref 16), some (.int sk), some (.int (nI k))] [] μ := by
  have hm1 := lr_mh hG; have hm2 := lr_mw hG; have hm3 := lr_mp hG; have hm4 := lr_mr hG; have hm5 := lr_ma hG; have hm6 := lr_ml hG
  intro n
  induction n with
  | zero =>
    intro k hk he
    refine pm_bl [(.iload_n 2, 1, 2, 0, 0), (.aload_n 0, 1, 0, 0, 0), (.getfield 9, 3, 7, 0, 0)] (pc1 := 7) (lo1 := [some (.ref 16), some (.int sk), some (.int (nI k))]) (st1 := [.int (μ.1 16 0), .int (nI k)]) (μ1 := μ) (vc := True) rfl (by decide +kernel) rfl trivial ?_
    rw [lr_rNr hR, lr_gr hG]
    refine pm_icmp_ge (off := 41) 48 (by decide +kernel) (by decide) (fun (h7 : (nI (lr_n g 167)) ≤ (nI k)) => ?_) (fun (h9 : ¬ ((nI (lr_n g 167)) ≤ (nI k))) => absurd (nI_le (by omega) (by omega)) h9)
    refine pm_bl [(.iconst 0, 1, 0, 0, 0)] (pc1 := 49) (lo1 := [some (.ref 16), some (.int sk), some (.int (nI k))]) (st1 := [.int 0]) (μ1 := μ) (vc := True) rfl (by decide +kernel) rfl trivial ?_
    exact pm_iret (ty := .boolean) rfl (rfl) (by decide) (by decide) (by decide +kernel) (⟨by rw [he]; rfl, rfl⟩)
  | succ n ih =>
    intro k hk he
    refine pm_bl [(.iload_n 2, 1, 2, 0, 0), (.aload_n 0, 1, 0, 0, 0), (.getfield 9, 3, 7, 0, 0)] (pc1 := 7) (lo1 := [some (.ref 16), some (.int sk), some (.int (nI k))]) (st1 := [.int (μ.1 16 0), .int (nI k)]) (μ1 := μ) (vc := True) rfl (by decide +kernel) rfl trivial ?_
    rw [lr_rNr hR, lr_gr hG]
    refine pm_icmp_ge (off := 41) 48 (by decide +kernel) (by decide) (fun (h9 : (nI (lr_n g 167)) ≤ (nI k)) => absurd h9 (nI_ge (by omega) (by omega))) (fun (h7 : ¬ ((nI (lr_n g 167)) ≤ (nI k))) => ?_)
    refine pm_bl [(.aload_n 0, 1, 0, 0, 0), (.aload_n 0, 1, 0, 0, 0), (.getfield 25, 3, 7, 4, 0), (.iload_n 2, 1, 2, 0, 0), (.iaload, 1, 0, 0, 0), (.iload_n 1, 1, 1, 0, 0)] (pc1 := 18) (lo1 := [some (.ref 16), some (.int sk), some (.int (nI k))]) (st1 := [.int sk, .int (μ.1 20 (nI k).toNatClampNeg), .ref 16]) (μ1 := μ) (vc := vp_in (nI k) 12 ∧ True) rfl (by decide +kernel) rfl ⟨(vp_in_nI (by omega) (by omega)), trivial⟩ ?_
    first | rw [nI_clamp (n := k) (by omega), lr_rrfi hR (i := k) (by omega)] | rw [lr_rrfi hR (i := k) (by omega)]
    refine pm_callV2 mi_X7_leadRoundOn (ix := 51) (b := 16) (ci := 7) (kc2 := 0) (ks2 := 0) (As := [.int (g (171 + 5 * k)), .int sk]) (rest := []) (c_X7_leadRoundOn (g (171 + 5 * k)) sk μ hR hG) cal_X7_leadRoundOn lk7_51 (by decide +kernel) rfl (by decide +kernel) rfl rfl rfl rfl (Nat.le_of_ble_eq_true rfl) (by decide) (by decide) (fun _ _ h9 => h9.elim) ?_
    rintro _ _ ⟨rfl, h9⟩; rw [h9]; clear h9
    show pm_V _ _ _ _ 21 _ [.int (lr_b (lr_crd g (g (171 + 5 * k)) sk))] _
    refine pm_ifb_ne (off := 19) 40 (by decide +kernel) (by decide) (fun (h21 : (lr_crd g (g (171 + 5 * k)) sk) = true) => ?_) (fun (h21 : (lr_crd g (g (171 + 5 * k)) sk) = false) => ?_)
    · refine pm_bl [(.iconst 1, 1, 0, 0, 1)] (pc1 := 41) (lo1 := [some (.ref 16), some (.int sk), some (.int (nI k))]) (st1 := [.int 1]) (μ1 := μ) (vc := True) rfl (by decide +kernel) rfl trivial ?_
      exact pm_iret (ty := .boolean) rfl (rfl) (by decide) (by decide) (by decide +kernel) (⟨by rw [he]; simp only [lr_any]; rw [if_pos (by simp_all)]; rfl, rfl⟩)
    · refine pm_bl [(.aload_n 0, 1, 0, 0, 0), (.aload_n 0, 1, 0, 0, 0), (.getfield 28, 3, 7, 5, 0), (.iload_n 2, 1, 2, 0, 0), (.iaload, 1, 0, 0, 0), (.iconst 1, 1, 0, 0, 1), (.iadd, 1, 0, 0, 0), (.iload_n 1, 1, 1, 0, 0)] (pc1 := 34) (lo1 := [some (.ref 16), some (.int sk), some (.int (nI k))]) (st1 := [.int sk, .int ((μ.1 21 (nI k).toNatClampNeg) + 1), .ref 16]) (μ1 := μ) (vc := vp_in (nI k) 12 ∧ True) rfl (by decide +kernel) rfl ⟨(vp_in_nI (by omega) (by omega)), trivial⟩ ?_
      first | rw [nI_clamp (n := k) (by omega), lr_rrla hR (i := k) (by omega)] | rw [lr_rrla hR (i := k) (by omega)]
      refine pm_callV2 mi_X7_leadRoundOn (ix := 51) (b := 16) (ci := 7) (kc2 := 0) (ks2 := 0) (As := [.int ((g (172 + 5 * k)) + 1), .int sk]) (rest := []) (c_X7_leadRoundOn ((g (172 + 5 * k)) + 1) sk μ hR hG) cal_X7_leadRoundOn lk7_51 (by decide +kernel) rfl (by decide +kernel) rfl rfl rfl rfl (Nat.le_of_ble_eq_true rfl) (by decide) (by decide) (fun _ _ h9 => h9.elim) ?_
      rintro _ _ ⟨rfl, h9⟩; rw [h9]; clear h9
      show pm_V _ _ _ _ 37 _ [.int (lr_b (lr_crd g ((g (172 + 5 * k)) + 1) sk))] _
      refine pm_ifb_eq (off := 5) 42 (by decide +kernel) (by decide) (fun (h37 : (lr_crd g ((g (172 + 5 * k)) + 1) sk) = false) => ?_) (fun (h37 : (lr_crd g ((g (172 + 5 * k)) + 1) sk) = true) => ?_)
      · refine pm_bl [(.iinc 2 1, 3, 2, 0, 1), (.goto (-43), 3, 2, 0, 0)] (pc1 := 2) (lo1 := [some (.ref 16), some (.int sk), some (.int ((nI k) + 1))]) (st1 := []) (μ1 := μ) (vc := True) rfl (by decide +kernel) rfl trivial ?_
        rw [nI_1]; exact ih (k + 1) (by omega) (by rw [he]; simp only [lr_any]; rw [if_neg (by simp_all)])
      · refine pm_bl [(.iconst 1, 1, 0, 0, 1)] (pc1 := 41) (lo1 := [some (.ref 16), some (.int sk), some (.int (nI k))]) (st1 := [.int 1]) (μ1 := μ) (vc := True) rfl (by decide +kernel) rfl trivial ?_
        exact pm_iret (ty := .boolean) rfl (rfl) (by decide) (by decide) (by decide +kernel) (⟨by rw [he]; simp only [lr_any]; rw [if_pos (by simp_all)]; rfl, rfl⟩)
set_option maxHeartbeats 4000000 in
set_option maxRecDepth 100000 in
theorem c_X7_leadRoundWithout {g : Nat → Int32} (sk : Int32) (μ : pm_Mm) (hR : lr_Rel μ.1 1 g) (hG : lr_G g) : pm_CT mi_X7_leadRoundWithout [.ref 16, .int sk] μ (fun v μ2 => v = some (.int (lr_b (lr_crw g sk))) ∧ μ2 = μ) pm_NX := by
  refine pm_CT_of (lo := [some (.ref 16), some (.int sk), none]) (by decide +kernel) rfl rfl (by intro v hv; simp at hv; rcases hv with rfl | rfl <;> rfl) (Nat.le_of_ble_eq_true rfl) rfl ?_
  refine pm_bl [(.iconst 0, 1, 0, 0, 0), (.istore_n 2, 1, 2, 0, 0)] (pc1 := 2) (lo1 := [some (.ref 16), some (.int sk), some (.int 0)]) (st1 := []) (μ1 := μ) (vc := True) rfl (by decide +kernel) rfl trivial ?_
  exact l_X7_leadRoundWithout sk μ hR hG (lr_n g 167) 0 (Nat.zero_add _) rfl
def lr_cst (g : Nat → Int32) (s : Int32) : Int32 := lr_sum (fun i => lr_b (decide (g (294 + 11 * i) = s))) (lr_n g 289)
def lr_crs (g : Nat → Int32) (s : Int32) : Int32 := lr_sum (fun i => lr_b (decide (g (296 + 11 * i) = s))) (lr_n g 289)
def lr_wwt (g : Nat → Int32) : Int32 := lr_sum (fun i => if g (294 + 11 * i) = 0 then g (291 + 11 * i) else 0) (lr_n g 289)
def lr_atr (g : Nat → Int32) : Int32 := lr_sum (fun i => g (297 + 11 * i)) (lr_n g 289)
def lr_dtd (g : Nat → Int32) : Int32 := lr_sum (fun i => if g (294 + 11 * i) = 1 then g (295 + 11 * i) - g (293 + 11 * i) else 0) (lr_n g 289)
set_option maxHeartbeats 4000000 in
set_option maxRecDepth 100000 in
theorem l_X4_countInState {g : Nat → Int32} (s : Int32) (μ : pm_Mm) (hR : lr_Rel μ.1 1 g) (hG : lr_G g) : ∀ n k : Nat, ∀ x : Int32, k + n = lr_n g 289 → x = lr_sum (fun i => lr_b (decide (g (294 + 11 * i) = s))) k → pm_V mi_X4_countInState ((fun v μ2 => v = some (.int (lr_cst g s)) ∧ μ2 = μ), pm_NX, fun _ _ _ => True) 0 0 4 [some (.ref 26), some (.int s), some (.int x), some (.int (nI k))] [] μ := by
  have hm1 := lr_mh hG; have hm2 := lr_mw hG; have hm3 := lr_mp hG; have hm4 := lr_mr hG; have hm5 := lr_ma hG; have hm6 := lr_ml hG
  intro n
  induction n with
  | zero =>
    intro k x hk he
    refine pm_bl [(.iload_n 3, 1, 3, 0, 0), (.aload_n 0, 1, 0, 0, 0), (.getfield 9, 3, 4, 0, 0)] (pc1 := 9) (lo1 := [some (.ref 26), some (.int s), some (.int x), some (.int (nI k))]) (st1 := [.int (μ.1 26 0), .int (nI k)]) (μ1 := μ) (vc := True) rfl (by decide +kernel) rfl trivial ?_
    rw [lr_rNl hR, lr_gl hG]
    refine pm_icmp_ge (off := 27) 36 (by decide +kernel) (by decide) (fun (h9 : (nI (lr_n g 289)) ≤ (nI k)) => ?_) (fun (h9 : ¬ ((nI (lr_n g 289)) ≤ (nI k))) => absurd (nI_le (by omega) (by omega)) h9)
    refine pm_bl [(.iload_n 2, 1, 2, 0, 0)] (pc1 := 37) (lo1 := [some (.ref 26), some (.int s), some (.int x), some (.int (nI k))]) (st1 := [.int x]) (μ1 := μ) (vc := True) rfl (by decide +kernel) rfl trivial ?_
    exact pm_iret (ty := .int) rfl rfl (by decide) (by decide) (by decide +kernel) (⟨by rw [he, lr_cst, ← hk]; rfl, rfl⟩)
  | succ n ih =>
    intro k x hk he
    refine pm_bl [(.iload_n 3, 1, 3, 0, 0), (.aload_n 0, 1, 0, 0, 0), (.getfield 9, 3, 4, 0, 0)] (pc1 := 9) (lo1 := [some (.ref 26), some (.int s), some (.int x), some (.int (nI k))]) (st1 := [.int (μ.1 26 0), .int (nI k)]) (μ1 := μ) (vc := True) rfl (by decide +kernel) rfl trivial ?_
    rw [lr_rNl hR, lr_gl hG]
    refine pm_icmp_ge (off := 27) 36 (by decide +kernel) (by decide) (fun (h9 : (nI (lr_n g 289)) ≤ (nI k)) => absurd h9 (nI_ge (by omega) (by omega))) (fun (h9 : ¬ ((nI (lr_n g 289)) ≤ (nI k))) => ?_)
    refine pm_bl [(.iload_n 2, 1, 2, 0, 0), (.aload_n 0, 1, 0, 0, 0), (.getfield 31, 3, 4, 6, 0), (.iload_n 3, 1, 3, 0, 0), (.iaload, 1, 0, 0, 0), (.iload_n 1, 1, 1, 0, 0)] (pc1 := 20) (lo1 := [some (.ref 26), some (.int s), some (.int x), some (.int (nI k))]) (st1 := [.int s, .int (μ.1 31 (nI k).toNatClampNeg), .int x]) (μ1 := μ) (vc := vp_in (nI k) 30 ∧ True) rfl (by decide +kernel) rfl ⟨(vp_in_nI (by omega) (by omega)), trivial⟩ ?_
    first | rw [nI_clamp (n := k) (by omega), lr_rlst hR (i := k) (by omega)] | rw [lr_rlst hR (i := k) (by omega)]
    refine pm_icmp_ne (off := 7) 27 (by decide +kernel) (by decide) (fun (h20 : ¬ (g (294 + 11 * k)) = s) => ?_) (fun (h20 : (g (294 + 11 * k)) = s) => ?_)
    · refine pm_bl [(.iconst 0, 1, 0, 0, 0), (.iadd, 1, 0, 0, 0), (.istore_n 2, 1, 2, 0, 0), (.iinc 3 1, 3, 3, 0, 1), (.goto (-29), 3, 4, 0, 0)] (pc1 := 4) (lo1 := [some (.ref 26), some (.int s), some (.int (x + 0)), some (.int ((nI k) + 1))]) (st1 := []) (μ1 := μ) (vc := True) rfl (by decide +kernel) rfl trivial ?_
      rw [nI_1]; exact ih (k + 1) _ (by omega) (by rw [he]; simp_all [lr_sum, lr_b])
    · refine pm_bl [(.iconst 1, 1, 0, 0, 1), (.goto 4, 3, 28, 0, 0), (.iadd, 1, 0, 0, 0), (.istore_n 2, 1, 2, 0, 0), (.iinc 3 1, 3, 3, 0, 1), (.goto (-29), 3, 4, 0, 0)] (pc1 := 4) (lo1 := [some (.ref 26), some (.int s), some (.int (x + 1)), some (.int ((nI k) + 1))]) (st1 := []) (μ1 := μ) (vc := True) rfl (by decide +kernel) rfl trivial ?_
      rw [nI_1]; exact ih (k + 1) _ (by omega) (by rw [he]; simp_all [lr_sum, lr_b])
set_option maxHeartbeats 4000000 in
set_option maxRecDepth 100000 in
theorem c_X4_countInState {g : Nat → Int32} (s : Int32) (μ : pm_Mm) (hR : lr_Rel μ.1 1 g) (hG : lr_G g) : pm_CT mi_X4_countInState [.ref 26, .int s] μ (fun v μ2 => v = some (.int (lr_cst g s)) ∧ μ2 = μ) pm_NX := by
  refine pm_CT_of (lo := [some (.ref 26), some (.int s), none, none]) (by decide +kernel) rfl rfl (by intro v hv; simp at hv; rcases hv with rfl | rfl <;> rfl) (Nat.le_of_ble_eq_true rfl) rfl ?_
  refine pm_bl [(.iconst 0, 1, 0, 0, 0), (.istore_n 2, 1, 2, 0, 0), (.iconst 0, 1, 0, 0, 0), (.istore_n 3, 1, 3, 0, 0)] (pc1 := 4) (lo1 := [some (.ref 26), some (.int s), some (.int 0), some (.int 0)]) (st1 := []) (μ1 := μ) (vc := True) rfl (by decide +kernel) rfl trivial ?_
  exact l_X4_countInState s μ hR hG (lr_n g 289) 0 0 (Nat.zero_add _) rfl
set_option maxHeartbeats 4000000 in
set_option maxRecDepth 100000 in
theorem l_X4_countReturnedFor {g : Nat → Int32} (s : Int32) (μ : pm_Mm) (hR : lr_Rel μ.1 1 g) (hG : lr_G g) : ∀ n k : Nat, ∀ x : Int32, k + n = lr_n g 289 → x = lr_sum (fun i => lr_b (decide (g (296 + 11 * i) = s))) k → pm_V mi_X4_countReturnedFor ((fun v μ2 => v = some (.int (lr_crs g s)) ∧ μ2 = μ), pm_NX, fun _ _ _ => True) 0 0 4 [some (.ref 26), some (.int s), some (.int x), some (.int (nI k))] [] μ := by
  have hm1 := lr_mh hG; have hm2 := lr_mw hG; have hm3 := lr_mp hG; have hm4 := lr_mr hG; have hm5 := lr_ma hG; have hm6 := lr_ml hG
  intro n
  induction n with
  | zero =>
    intro k x hk he
    refine pm_bl [(.iload_n 3, 1, 3, 0, 0), (.aload_n 0, 1, 0, 0, 0), (.getfield 9, 3, 4, 0, 0)] (pc1 := 9) (lo1 := [some (.ref 26), some (.int s), some (.int x), some (.int (nI k))]) (st1 := [.int (μ.1 26 0), .int (nI k)]) (μ1 := μ) (vc := True) rfl (by decide +kernel) rfl trivial ?_
    rw [lr_rNl hR, lr_gl hG]
    refine pm_icmp_ge (off := 27) 36 (by decide +kernel) (by decide) (fun (h9 : (nI (lr_n g 289)) ≤ (nI k)) => ?_) (fun (h9 : ¬ ((nI (lr_n g 289)) ≤ (nI k))) => absurd (nI_le (by omega) (by omega)) h9)
    refine pm_bl [(.iload_n 2, 1, 2, 0, 0)] (pc1 := 37) (lo1 := [some (.ref 26), some (.int s), some (.int x), some (.int (nI k))]) (st1 := [.int x]) (μ1 := μ) (vc := True) rfl (by decide +kernel) rfl trivial ?_
    exact pm_iret (ty := .int) rfl rfl (by decide) (by decide) (by decide +kernel) (⟨by rw [he, lr_crs, ← hk]; rfl, rfl⟩)
  | succ n ih =>
    intro k x hk he
    refine pm_bl [(.iload_n 3, 1, 3, 0, 0), (.aload_n 0, 1, 0, 0, 0), (.getfield 9, 3, 4, 0, 0)] (pc1 := 9) (lo1 := [some (.ref 26), some (.int s), some (.int x), some (.int (nI k))]) (st1 := [.int (μ.1 26 0), .int (nI k)]) (μ1 := μ) (vc := True) rfl (by decide +kernel) rfl trivial ?_
    rw [lr_rNl hR, lr_gl hG]
    refine pm_icmp_ge (off := 27) 36 (by decide +kernel) (by decide) (fun (h9 : (nI (lr_n g 289)) ≤ (nI k)) => absurd h9 (nI_ge (by omega) (by omega))) (fun (h9 : ¬ ((nI (lr_n g 289)) ≤ (nI k))) => ?_)
    refine pm_bl [(.iload_n 2, 1, 2, 0, 0), (.aload_n 0, 1, 0, 0, 0), (.getfield 37, 3, 4, 8, 0), (.iload_n 3, 1, 3, 0, 0), (.iaload, 1, 0, 0, 0), (.iload_n 1, 1, 1, 0, 0)] (pc1 := 20) (lo1 := [some (.ref 26), some (.int s), some (.int x), some (.int (nI k))]) (st1 := [.int s, .int (μ.1 33 (nI k).toNatClampNeg), .int x]) (μ1 := μ) (vc := vp_in (nI k) 30 ∧ True) rfl (by decide +kernel) rfl ⟨(vp_in_nI (by omega) (by omega)), trivial⟩ ?_
    first | rw [nI_clamp (n := k) (by omega), lr_rlrs hR (i := k) (by omega)] | rw [lr_rlrs hR (i := k) (by omega)]
    refine pm_icmp_ne (off := 7) 27 (by decide +kernel) (by decide) (fun (h20 : ¬ (g (296 + 11 * k)) = s) => ?_) (fun (h20 : (g (296 + 11 * k)) = s) => ?_)
    · refine pm_bl [(.iconst 0, 1, 0, 0, 0), (.iadd, 1, 0, 0, 0), (.istore_n 2, 1, 2, 0, 0), (.iinc 3 1, 3, 3, 0, 1), (.goto (-29), 3, 4, 0, 0)] (pc1 := 4) (lo1 := [some (.ref 26), some (.int s), some (.int (x + 0)), some (.int ((nI k) + 1))]) (st1 := []) (μ1 := μ) (vc := True) rfl (by decide +kernel) rfl trivial ?_
      rw [nI_1]; exact ih (k + 1) _ (by omega) (by rw [he]; simp_all [lr_sum, lr_b])
    · refine pm_bl [(.iconst 1, 1, 0, 0, 1), (.goto 4, 3, 28, 0, 0), (.iadd, 1, 0, 0, 0), (.istore_n 2, 1, 2, 0, 0), (.iinc 3 1, 3, 3, 0, 1), (.goto (-29), 3, 4, 0, 0)] (pc1 := 4) (lo1 := [some (.ref 26), some (.int s), some (.int (x + 1)), some (.int ((nI k) + 1))]) (st1 := []) (μ1 := μ) (vc := True) rfl (by decide +kernel) rfl trivial ?_
      rw [nI_1]; exact ih (k + 1) _ (by omega) (by rw [he]; simp_all [lr_sum, lr_b])
set_option maxHeartbeats 4000000 in
set_option maxRecDepth 100000 in
theorem c_X4_countReturnedFor {g : Nat → Int32} (s : Int32) (μ : pm_Mm) (hR : lr_Rel μ.1 1 g) (hG : lr_G g) : pm_CT mi_X4_countReturnedFor [.ref 26, .int s] μ (fun v μ2 => v = some (.int (lr_crs g s)) ∧ μ2 = μ) pm_NX := by
  refine pm_CT_of (lo := [some (.ref 26), some (.int s), none, none]) (by decide +kernel) rfl rfl (by intro v hv; simp at hv; rcases hv with rfl | rfl <;> rfl) (Nat.le_of_ble_eq_true rfl) rfl ?_
  refine pm_bl [(.iconst 0, 1, 0, 0, 0), (.istore_n 2, 1, 2, 0, 0), (.iconst 0, 1, 0, 0, 0), (.istore_n 3, 1, 3, 0, 0)] (pc1 := 4) (lo1 := [some (.ref 26), some (.int s), some (.int 0), some (.int 0)]) (st1 := []) (μ1 := μ) (vc := True) rfl (by decide +kernel) rfl trivial ?_
  exact l_X4_countReturnedFor s μ hR hG (lr_n g 289) 0 0 (Nat.zero_add _) rfl
set_option maxHeartbeats 4000000 in
set_option maxRecDepth 100000 in
theorem l_X4_waitingWeight {g : Nat → Int32} (μ : pm_Mm) (hR : lr_Rel μ.1 1 g) (hG : lr_G g) : ∀ n k : Nat, ∀ x : Int32, k + n = lr_n g 289 → x = lr_sum (fun i => if g (294 + 11 * i) = 0 then g (291 + 11 * i) else 0) k → pm_V mi_X4_waitingWeight ((fun v μ2 => v = some (.int (lr_wwt g)) ∧ μ2 = μ), pm_NX, fun _ _ _ => True) 0 0 4 [some (.ref 26), some (.int x), some (.int (nI k))] [] μ := by
  have hm1 := lr_mh hG; have hm2 := lr_mw hG; have hm3 := lr_mp hG; have hm4 := lr_mr hG; have hm5 := lr_ma hG; have hm6 := lr_ml hG
  intro n
  induction n with
  | zero =>
    intro k x hk he
    refine pm_bl [(.iload_n 2, 1, 2, 0, 0), (.aload_n 0, 1, 0, 0, 0), (.getfield 9, 3, 4, 0, 0)] (pc1 := 9) (lo1 := [some (.ref 26), some (.int x), some (.int (nI k))]) (st1 := [.int (μ.1 26 0), .int (nI k)]) (μ1 := μ) (vc := True) rfl (by decide +kernel) rfl trivial ?_
    rw [lr_rNl hR, lr_gl hG]
    refine pm_icmp_ge (off := 31) 40 (by decide +kernel) (by decide) (fun (h9 : (nI (lr_n g 289)) ≤ (nI k)) => ?_) (fun (h9 : ¬ ((nI (lr_n g 289)) ≤ (nI k))) => absurd (nI_le (by omega) (by omega)) h9)
    refine pm_bl [(.iload_n 1, 1, 1, 0, 0)] (pc1 := 41) (lo1 := [some (.ref 26), some (.int x), some (.int (nI k))]) (st1 := [.int x]) (μ1 := μ) (vc := True) rfl (by decide +kernel) rfl trivial ?_
    exact pm_iret (ty := .int) rfl rfl (by decide) (by decide) (by decide +kernel) (⟨by rw [he, lr_wwt, ← hk]; rfl, rfl⟩)
  | succ n ih =>
    intro k x hk he
    refine pm_bl [(.iload_n 2, 1, 2, 0, 0), (.aload_n 0, 1, 0, 0, 0), (.getfield 9, 3, 4, 0, 0)] (pc1 := 9) (lo1 := [some (.ref 26), some (.int x), some (.int (nI k))]) (st1 := [.int (μ.1 26 0), .int (nI k)]) (μ1 := μ) (vc := True) rfl (by decide +kernel) rfl trivial ?_
    rw [lr_rNl hR, lr_gl hG]
    refine pm_icmp_ge (off := 31) 40 (by decide +kernel) (by decide) (fun (h9 : (nI (lr_n g 289)) ≤ (nI k)) => absurd h9 (nI_ge (by omega) (by omega))) (fun (h9 : ¬ ((nI (lr_n g 289)) ≤ (nI k))) => ?_)
    refine pm_bl [(.iload_n 1, 1, 1, 0, 0), (.aload_n 0, 1, 0, 0, 0), (.getfield 31, 3, 4, 6, 0), (.iload_n 2, 1, 2, 0, 0), (.iaload, 1, 0, 0, 0)] (pc1 := 19) (lo1 := [some (.ref 26), some (.int x), some (.int (nI k))]) (st1 := [.int (μ.1 31 (nI k).toNatClampNeg), .int x]) (μ1 := μ) (vc := vp_in (nI k) 30 ∧ True) rfl (by decide +kernel) rfl ⟨(vp_in_nI (by omega) (by omega)), trivial⟩ ?_
    first | rw [nI_clamp (n := k) (by omega), lr_rlst hR (i := k) (by omega)] | rw [lr_rlst hR (i := k) (by omega)]
    refine pm_if_ne (off := 12) 31 (by decide +kernel) (by decide) (fun (h19 : ¬ (g (294 + 11 * k)) = 0) => ?_) (fun (h19 : (g (294 + 11 * k)) = 0) => ?_)
    · refine pm_bl [(.iconst 0, 1, 0, 0, 0), (.iadd, 1, 0, 0, 0), (.istore_n 1, 1, 1, 0, 0), (.iinc 2 1, 3, 2, 0, 1), (.goto (-33), 3, 4, 0, 0)] (pc1 := 4) (lo1 := [some (.ref 26), some (.int (x + 0)), some (.int ((nI k) + 1))]) (st1 := []) (μ1 := μ) (vc := True) rfl (by decide +kernel) rfl trivial ?_
      rw [nI_1]; exact ih (k + 1) _ (by omega) (by rw [he]; simp_all [lr_sum, lr_b])
    · refine pm_bl [(.aload_n 0, 1, 0, 0, 0), (.getfield 22, 3, 4, 3, 0), (.iload_n 2, 1, 2, 0, 0), (.iaload, 1, 0, 0, 0), (.goto 4, 3, 32, 0, 0), (.iadd, 1, 0, 0, 0), (.istore_n 1, 1, 1, 0, 0), (.iinc 2 1, 3, 2, 0, 1), (.goto (-33), 3, 4, 0, 0)] (pc1 := 4) (lo1 := [some (.ref 26), some (.int (x + (μ.1 28 (nI k).toNatClampNeg))), some (.int ((nI k) + 1))]) (st1 := []) (μ1 := μ) (vc := vp_in (nI k) 30 ∧ True) rfl (by decide +kernel) rfl ⟨(vp_in_nI (by omega) (by omega)), trivial⟩ ?_
      first | rw [nI_clamp (n := k) (by omega), lr_rlwe hR (i := k) (by omega)] | rw [lr_rlwe hR (i := k) (by omega)]
      rw [nI_1]; exact ih (k + 1) _ (by omega) (by rw [he]; simp_all [lr_sum, lr_b])
set_option maxHeartbeats 4000000 in
set_option maxRecDepth 100000 in
theorem c_X4_waitingWeight {g : Nat → Int32} (μ : pm_Mm) (hR : lr_Rel μ.1 1 g) (hG : lr_G g) : pm_CT mi_X4_waitingWeight [.ref 26] μ (fun v μ2 => v = some (.int (lr_wwt g)) ∧ μ2 = μ) pm_NX := by
  refine pm_CT_of (lo := [some (.ref 26), none, none]) (by decide +kernel) rfl rfl (by intro v hv; simp at hv; rcases hv with rfl <;> rfl) (Nat.le_of_ble_eq_true rfl) rfl ?_
  refine pm_bl [(.iconst 0, 1, 0, 0, 0), (.istore_n 1, 1, 1, 0, 0), (.iconst 0, 1, 0, 0, 0), (.istore_n 2, 1, 2, 0, 0)] (pc1 := 4) (lo1 := [some (.ref 26), some (.int 0), some (.int 0)]) (st1 := []) (μ1 := μ) (vc := True) rfl (by decide +kernel) rfl trivial ?_
  exact l_X4_waitingWeight μ hR hG (lr_n g 289) 0 0 (Nat.zero_add _) rfl
set_option maxHeartbeats 4000000 in
set_option maxRecDepth 100000 in
theorem l_X4_allTries {g : Nat → Int32} (μ : pm_Mm) (hR : lr_Rel μ.1 1 g) (hG : lr_G g) : ∀ n k : Nat, ∀ x : Int32, k + n = lr_n g 289 → x = lr_sum (fun i => g (297 + 11 * i)) k → pm_V mi_X4_allTries ((fun v μ2 => v = some (.int (lr_atr g)) ∧ μ2 = μ), pm_NX, fun _ _ _ => True) 0 0 4 [some (.ref 26), some (.int x), some (.int (nI k))] [] μ := by
  have hm1 := lr_mh hG; have hm2 := lr_mw hG; have hm3 := lr_mp hG; have hm4 := lr_mr hG; have hm5 := lr_ma hG; have hm6 := lr_ml hG
  intro n
  induction n with
  | zero =>
    intro k x hk he
    refine pm_bl [(.iload_n 2, 1, 2, 0, 0), (.aload_n 0, 1, 0, 0, 0), (.getfield 9, 3, 4, 0, 0)] (pc1 := 9) (lo1 := [some (.ref 26), some (.int x), some (.int (nI k))]) (st1 := [.int (μ.1 26 0), .int (nI k)]) (μ1 := μ) (vc := True) rfl (by decide +kernel) rfl trivial ?_
    rw [lr_rNl hR, lr_gl hG]
    refine pm_icmp_ge (off := 18) 27 (by decide +kernel) (by decide) (fun (h9 : (nI (lr_n g 289)) ≤ (nI k)) => ?_) (fun (h9 : ¬ ((nI (lr_n g 289)) ≤ (nI k))) => absurd (nI_le (by omega) (by omega)) h9)
    refine pm_bl [(.iload_n 1, 1, 1, 0, 0)] (pc1 := 28) (lo1 := [some (.ref 26), some (.int x), some (.int (nI k))]) (st1 := [.int x]) (μ1 := μ) (vc := True) rfl (by decide +kernel) rfl trivial ?_
    exact pm_iret (ty := .int) rfl rfl (by decide) (by decide) (by decide +kernel) (⟨by rw [he, lr_atr, ← hk]; rfl, rfl⟩)
  | succ n ih =>
    intro k x hk he
    refine pm_bl [(.iload_n 2, 1, 2, 0, 0), (.aload_n 0, 1, 0, 0, 0), (.getfield 9, 3, 4, 0, 0)] (pc1 := 9) (lo1 := [some (.ref 26), some (.int x), some (.int (nI k))]) (st1 := [.int (μ.1 26 0), .int (nI k)]) (μ1 := μ) (vc := True) rfl (by decide +kernel) rfl trivial ?_
    rw [lr_rNl hR, lr_gl hG]
    refine pm_icmp_ge (off := 18) 27 (by decide +kernel) (by decide) (fun (h9 : (nI (lr_n g 289)) ≤ (nI k)) => absurd h9 (nI_ge (by omega) (by omega))) (fun (h9 : ¬ ((nI (lr_n g 289)) ≤ (nI k))) => ?_)
    refine pm_bl [(.iload_n 1, 1, 1, 0, 0), (.aload_n 0, 1, 0, 0, 0), (.getfield 40, 3, 4, 9, 0), (.iload_n 2, 1, 2, 0, 0), (.iaload, 1, 0, 0, 0), (.iadd, 1, 0, 0, 0), (.istore_n 1, 1, 1, 0, 0), (.iinc 2 1, 3, 2, 0, 1), (.goto (-20), 3, 4, 0, 0)] (pc1 := 4) (lo1 := [some (.ref 26), some (.int (x + (μ.1 34 (nI k).toNatClampNeg))), some (.int ((nI k) + 1))]) (st1 := []) (μ1 := μ) (vc := vp_in (nI k) 30 ∧ True) rfl (by decide +kernel) rfl ⟨(vp_in_nI (by omega) (by omega)), trivial⟩ ?_
    first | rw [nI_clamp (n := k) (by omega), lr_rltr hR (i := k) (by omega)] | rw [lr_rltr hR (i := k) (by omega)]
    rw [nI_1]; exact ih (k + 1) _ (by omega) (by rw [he]; simp_all [lr_sum, lr_b])
set_option maxHeartbeats 4000000 in
set_option maxRecDepth 100000 in
theorem c_X4_allTries {g : Nat → Int32} (μ : pm_Mm) (hR : lr_Rel μ.1 1 g) (hG : lr_G g) : pm_CT mi_X4_allTries [.ref 26] μ (fun v μ2 => v = some (.int (lr_atr g)) ∧ μ2 = μ) pm_NX := by
  refine pm_CT_of (lo := [some (.ref 26), none, none]) (by decide +kernel) rfl rfl (by intro v hv; simp at hv; rcases hv with rfl <;> rfl) (Nat.le_of_ble_eq_true rfl) rfl ?_
  refine pm_bl [(.iconst 0, 1, 0, 0, 0), (.istore_n 1, 1, 1, 0, 0), (.iconst 0, 1, 0, 0, 0), (.istore_n 2, 1, 2, 0, 0)] (pc1 := 4) (lo1 := [some (.ref 26), some (.int 0), some (.int 0)]) (st1 := []) (μ1 := μ) (vc := True) rfl (by decide +kernel) rfl trivial ?_
  exact l_X4_allTries μ hR hG (lr_n g 289) 0 0 (Nat.zero_add _) rfl
set_option maxHeartbeats 4000000 in
set_option maxRecDepth 100000 in
theorem l_X4_daysToDeliveries {g : Nat → Int32} (μ : pm_Mm) (hR : lr_Rel μ.1 1 g) (hG : lr_G g) : ∀ n k : Nat, ∀ x : Int32, k + n = lr_n g 289 → x = lr_sum (fun i => if g (294 + 11 * i) = 1 then g (295 + 11 * i) - g (293 + 11 * i) else 0) k → pm_V mi_X4_daysToDeliveries ((fun v μ2 => v = some (.int (lr_dtd g)) ∧ μ2 = μ), pm_NX, fun _ _ _ => True) 0 0 4 [some (.ref 26), some (.int x), some (.int (nI k))] [] μ := by
  have hm1 := lr_mh hG; have hm2 := lr_mw hG; have hm3 := lr_mp hG; have hm4 := lr_mr hG; have hm5 := lr_ma hG; have hm6 := lr_ml hG
  intro n
  induction n with
  | zero =>
    intro k x hk he
    refine pm_bl [(.iload_n 2, 1, 2, 0, 0), (.aload_n 0, 1, 0, 0, 0), (.getfield 9, 3, 4, 0, 0)] (pc1 := 9) (lo1 := [some (.ref 26), some (.int x), some (.int (nI k))]) (st1 := [.int (μ.1 26 0), .int (nI k)]) (μ1 := μ) (vc := True) rfl (by decide +kernel) rfl trivial ?_
    rw [lr_rNl hR, lr_gl hG]
    refine pm_icmp_ge (off := 39) 48 (by decide +kernel) (by decide) (fun (h9 : (nI (lr_n g 289)) ≤ (nI k)) => ?_) (fun (h9 : ¬ ((nI (lr_n g 289)) ≤ (nI k))) => absurd (nI_le (by omega) (by omega)) h9)
    refine pm_bl [(.iload_n 1, 1, 1, 0, 0)] (pc1 := 49) (lo1 := [some (.ref 26), some (.int x), some (.int (nI k))]) (st1 := [.int x]) (μ1 := μ) (vc := True) rfl (by decide +kernel) rfl trivial ?_
    exact pm_iret (ty := .int) rfl rfl (by decide) (by decide) (by decide +kernel) (⟨by rw [he, lr_dtd, ← hk]; rfl, rfl⟩)
  | succ n ih =>
    intro k x hk he
    refine pm_bl [(.iload_n 2, 1, 2, 0, 0), (.aload_n 0, 1, 0, 0, 0), (.getfield 9, 3, 4, 0, 0)] (pc1 := 9) (lo1 := [some (.ref 26), some (.int x), some (.int (nI k))]) (st1 := [.int (μ.1 26 0), .int (nI k)]) (μ1 := μ) (vc := True) rfl (by decide +kernel) rfl trivial ?_
    rw [lr_rNl hR, lr_gl hG]
    refine pm_icmp_ge (off := 39) 48 (by decide +kernel) (by decide) (fun (h9 : (nI (lr_n g 289)) ≤ (nI k)) => absurd h9 (nI_ge (by omega) (by omega))) (fun (h9 : ¬ ((nI (lr_n g 289)) ≤ (nI k))) => ?_)
    refine pm_bl [(.iload_n 1, 1, 1, 0, 0), (.aload_n 0, 1, 0, 0, 0), (.getfield 31, 3, 4, 6, 0), (.iload_n 2, 1, 2, 0, 0), (.iaload, 1, 0, 0, 0), (.iconst 1, 1, 0, 0, 1)] (pc1 := 20) (lo1 := [some (.ref 26), some (.int x), some (.int (nI k))]) (st1 := [.int 1, .int (μ.1 31 (nI k).toNatClampNeg), .int x]) (μ1 := μ) (vc := vp_in (nI k) 30 ∧ True) rfl (by decide +kernel) rfl ⟨(vp_in_nI (by omega) (by omega)), trivial⟩ ?_
    first | rw [nI_clamp (n := k) (by omega), lr_rlst hR (i := k) (by omega)] | rw [lr_rlst hR (i := k) (by omega)]
    refine pm_icmp_ne (off := 19) 39 (by decide +kernel) (by decide) (fun (h20 : ¬ (g (294 + 11 * k)) = 1) => ?_) (fun (h20 : (g (294 + 11 * k)) = 1) => ?_)
    · refine pm_bl [(.iconst 0, 1, 0, 0, 0), (.iadd, 1, 0, 0, 0), (.istore_n 1, 1, 1, 0, 0), (.iinc 2 1, 3, 2, 0, 1), (.goto (-41), 3, 4, 0, 0)] (pc1 := 4) (lo1 := [some (.ref 26), some (.int (x + 0)), some (.int ((nI k) + 1))]) (st1 := []) (μ1 := μ) (vc := True) rfl (by decide +kernel) rfl trivial ?_
      rw [nI_1]; exact ih (k + 1) _ (by omega) (by rw [he]; simp_all [lr_sum, lr_b])
    · refine pm_bl [(.aload_n 0, 1, 0, 0, 0), (.getfield 34, 3, 4, 7, 0), (.iload_n 2, 1, 2, 0, 0), (.iaload, 1, 0, 0, 0), (.aload_n 0, 1, 0, 0, 0), (.getfield 28, 3, 4, 5, 0), (.iload_n 2, 1, 2, 0, 0), (.iaload, 1, 0, 0, 0), (.isub, 1, 0, 0, 0), (.goto 4, 3, 40, 0, 0), (.iadd, 1, 0, 0, 0), (.istore_n 1, 1, 1, 0, 0), (.iinc 2 1, 3, 2, 0, 1), (.goto (-41), 3, 4, 0, 0)] (pc1 := 4) (lo1 := [some (.ref 26), some (.int (x + ((μ.1 32 (nI k).toNatClampNeg) - (μ.1 30 (nI k).toNatClampNeg)))), some (.int ((nI k) + 1))]) (st1 := []) (μ1 := μ) (vc := vp_in (nI k) 30 ∧ vp_in (nI k) 30 ∧ True) rfl (by decide +kernel) rfl ⟨(vp_in_nI (by omega) (by omega)), (vp_in_nI (by omega) (by omega)), trivial⟩ ?_
      first | rw [nI_clamp (n := k) (by omega), lr_rlen hR (i := k) (by omega)] | rw [lr_rlen hR (i := k) (by omega)]
      first | rw [nI_clamp (n := k) (by omega), lr_rlca hR (i := k) (by omega)] | rw [lr_rlca hR (i := k) (by omega)]
      rw [nI_1]; exact ih (k + 1) _ (by omega) (by rw [he]; simp_all [lr_sum, lr_b])
set_option maxHeartbeats 4000000 in
set_option maxRecDepth 100000 in
theorem c_X4_daysToDeliveries {g : Nat → Int32} (μ : pm_Mm) (hR : lr_Rel μ.1 1 g) (hG : lr_G g) : pm_CT mi_X4_daysToDeliveries [.ref 26] μ (fun v μ2 => v = some (.int (lr_dtd g)) ∧ μ2 = μ) pm_NX := by
  refine pm_CT_of (lo := [some (.ref 26), none, none]) (by decide +kernel) rfl rfl (by intro v hv; simp at hv; rcases hv with rfl <;> rfl) (Nat.le_of_ble_eq_true rfl) rfl ?_
  refine pm_bl [(.iconst 0, 1, 0, 0, 0), (.istore_n 1, 1, 1, 0, 0), (.iconst 0, 1, 0, 0, 0), (.istore_n 2, 1, 2, 0, 0)] (pc1 := 4) (lo1 := [some (.ref 26), some (.int 0), some (.int 0)]) (st1 := []) (μ1 := μ) (vc := True) rfl (by decide +kernel) rfl trivial ?_
  exact l_X4_daysToDeliveries μ hR hG (lr_n g 289) 0 0 (Nat.zero_add _) rfl
