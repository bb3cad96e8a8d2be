/-! rows of cells copied and closed; single numbers put; letters made, delivered, sent back; absences and redirects dropped -/
set_option maxHeartbeats 4000000 in
set_option maxRecDepth 100000 in
theorem c_X9_copyRow {a b n : Nat} (μ : pm_Mm) (ha : pm_sh[a]? = some (.inl (0, n))) (hb : pm_sh[b]? = some (.inl (0, n))) (hn : n < 10000) : pm_CT mi_X9_copyRow [.ref a, .ref b] μ (fun v μ2 => v = none ∧ μ2 = pm_row μ b (va_cpy (μ.1 a) (μ.1 b) 0 0 n)) pm_NX := by
  refine pm_CT_of (lo := [some (.ref a), some (.ref b)]) (by decide +kernel) rfl rfl (by intro v hv; simp at hv; rcases hv with rfl | rfl <;> rfl) (Nat.le_of_ble_eq_true rfl) rfl ?_
  refine pm_s_aload_n (j := 0) (a := 0) (x := a) (by decide +kernel) rfl rfl ?_
  refine pm_s_iconst (z := 0) (v := 0) (by decide) (by decide +kernel) ?_
  refine pm_s_aload_n (j := 1) (a := 1) (x := b) (by decide +kernel) rfl rfl ?_
  refine pm_s_iconst (z := 0) (v := 0) (by decide) (by decide +kernel) ?_
  refine pm_s_aload_n (j := 0) (a := 0) (x := a) (by decide +kernel) rfl rfl ?_
  refine pm_s_alen ha (by decide +kernel) ?_
  refine pm_s_aload_n (j := 1) (a := 1) (x := b) (by decide +kernel) rfl rfl ?_
  refine pm_s_alen hb (by decide +kernel) ?_
  refine pm_min lkM9_380 (by decide +kernel) (by decide) (Nat.le_of_ble_eq_true rfl) ?_
  rw [show (if Int32.ofNat n < Int32.ofNat n then Int32.ofNat n else Int32.ofNat n) = nI n from by rw [ite_self]; rfl]
  refine pm_acopy (n0 := n) (n1 := n) lkA9_385 (by decide +kernel) ha hb (by decide) (by decide) (nI_pos (by omega)) (by rw [nI_clamp (by omega)]; show 0 + n ≤ n; omega) (by rw [nI_clamp (by omega)]; show 0 + n ≤ n; omega) (by decide) (Nat.le_of_ble_eq_true rfl) ?_
  exact pm_vret rfl (by decide) (by decide) (by decide +kernel) ⟨rfl, by rw [nI_clamp (by omega)]; rfl⟩
set_option maxHeartbeats 4000000 in
set_option maxRecDepth 100000 in
theorem c_X9_closeGap {a n k : Nat} (μ : pm_Mm) (ha : pm_sh[a]? = some (.inl (0, n))) (hk : k < n) (hn : n < 10000) : pm_CT mi_X9_closeGap [.ref a, .int (nI k)] μ (fun v μ2 => v = none ∧ μ2 = pm_row μ a (va_cpy (μ.1 a) (μ.1 a) (k + 1) k (n - k - 1))) pm_NX := by
  refine pm_CT_of (lo := [some (.ref a), some (.int (nI k))]) (by decide +kernel) rfl rfl (by intro v hv; simp at hv; rcases hv with rfl | rfl <;> rfl) (Nat.le_of_ble_eq_true rfl) rfl ?_
  refine pm_s_iload_n (j := 1) (a := 1) (x := nI k) (by decide +kernel) rfl rfl ?_
  refine pm_s_aload_n (j := 0) (a := 0) (x := a) (by decide +kernel) rfl rfl ?_
  refine pm_s_alen ha (by decide +kernel) ?_
  refine pm_callS2 mi_X9_isBelow (ix := 130) (kc2 := 0) (ks2 := 0) (As := [.int (nI k), .int (Int32.ofNat n)]) (rest := []) (c_X9_isBelow (nI k) (Int32.ofNat n) μ) cal_X9_isBelow lk9_130 (by decide +kernel) rfl (by decide +kernel) rfl rfl (Nat.le_of_ble_eq_true rfl) (by decide) (by decide) (fun _ _ h9 => h9.elim) ?_
  rintro _ _ ⟨rfl, h9⟩; rw [h9]; clear h9
  show pm_V _ _ _ _ 6 _ [.int (lr_b (lr_be (nI k) (nI n)))] _
  rw [lr_be_nI (by omega) (by omega), decide_eq_true hk]
  refine pm_ifb_eq (off := 18) 24 (by decide +kernel) (by decide) (fun h9 => by cases h9) (fun _ => ?_)
  refine pm_s_aload_n (j := 0) (a := 0) (x := a) (by decide +kernel) rfl rfl ?_
  refine pm_s_iload_n (j := 1) (a := 1) (x := nI k) (by decide +kernel) rfl rfl ?_
  refine pm_s_iconst (z := 1) (v := 1) (by decide) (by decide +kernel) ?_
  refine pm_s_iadd (by decide +kernel) ?_
  refine pm_s_aload_n (j := 0) (a := 0) (x := a) (by decide +kernel) rfl rfl ?_
  refine pm_s_iload_n (j := 1) (a := 1) (x := nI k) (by decide +kernel) rfl rfl ?_
  refine pm_s_aload_n (j := 0) (a := 0) (x := a) (by decide +kernel) rfl rfl ?_
  refine pm_s_alen ha (by decide +kernel) ?_
  refine pm_s_iload_n (j := 1) (a := 1) (x := nI k) (by decide +kernel) rfl rfl ?_
  refine pm_s_isub (by decide +kernel) ?_
  refine pm_s_iconst (z := 1) (v := 1) (by decide) (by decide +kernel) ?_
  refine pm_s_isub (by decide +kernel) ?_
  have e1 : Int32.ofNat n - nI k - 1 = nI (n - k - 1) := by
    have h : Int32.ofNat n = nI (n - k - 1) + 1 + nI k := by rw [nI_1, nI_add]; show nI n = _; congr 1; omega
    rw [h, Int32.add_sub_cancel, Int32.add_sub_cancel]
  rw [e1, nI_1]
  refine pm_acopy (n0 := n) (n1 := n) lkA9_385 (by decide +kernel) ha ha (nI_pos (by omega)) (nI_pos (by omega)) (nI_pos (by omega)) (by rw [nI_clamp (by omega), nI_clamp (by omega)]; omega) (by rw [nI_clamp (by omega), nI_clamp (by omega)]; omega) (by decide) (Nat.le_of_ble_eq_true rfl) ?_
  exact pm_vret rfl (by decide) (by decide) (by decide +kernel) ⟨rfl, by rw [nI_clamp (by omega), nI_clamp (by omega), nI_clamp (by omega)]⟩
def lr_B (g : Nat → Int32) : Prop := lr_n g 2 ≤ 16 ∧ lr_n g 35 ≤ 20 ∧ lr_n g 116 ≤ 10 ∧ lr_n g 167 ≤ 12 ∧ lr_n g 228 ≤ 20 ∧ lr_n g 289 ≤ 30
theorem lr_G.B {g : Nat → Int32} (hG : lr_G g) : lr_B g := ⟨lr_mh hG, lr_mp hG, lr_mw hG, lr_mr hG, lr_ma hG, lr_ml hG⟩
theorem lr_B.upd {g : Nat → Int32} (hB : lr_B g) {k : Nat} {v : Int32} (h : k ≠ 2 ∧ k ≠ 35 ∧ k ≠ 116 ∧ k ≠ 167 ∧ k ≠ 228 ∧ k ≠ 289) : lr_B (upd g k v) := by
  unfold lr_B
  rw [lr_n_upd (by omega), lr_n_upd (by omega), lr_n_upd (by omega), lr_n_upd (by omega), lr_n_upd (by omega), lr_n_upd (by omega)]
  exact hB
theorem lr_put_pho {μ : pm_Mm} {g : Nat → Int32} (hR : lr_Rel μ.1 1 g) (hB : lr_B g) {j : Nat} (hj : j < lr_n g 35) (v : Int32) : lr_Rel (pm_set μ 6 j v).1 1 (upd g (36 + 4 * j) v) := by
  obtain ⟨hm1, hm3, hm2, hm4, hm5, hm6⟩ := hB
  refine ⟨by rw [pm_set_off, upd_ne]; exact hR.1; all_goals omega, lr_Rh.st hR.2.1 hm1 (fun k h1 h2 => by rw [pm_set_off]; omega) (fun j h1 h2 => by rw [upd_ne]; omega), ?_, lr_Rw.st hR.2.2.2.1 hm2 (fun k h1 h2 => by rw [pm_set_off]; omega) (fun j h1 h2 => by rw [upd_ne]; omega), lr_Rr.st hR.2.2.2.2.1 hm4 (fun k h1 h2 => by rw [pm_set_off]; omega) (fun j h1 h2 => by rw [upd_ne]; omega), lr_Ra.st hR.2.2.2.2.2.1 hm5 (fun k h1 h2 => by rw [pm_set_off]; omega) (fun j h1 h2 => by rw [upd_ne]; omega), lr_Rl.st hR.2.2.2.2.2.2 hm6 (fun k h1 h2 => by rw [pm_set_off]; omega) (by rw [upd_ne]; omega) (fun j h1 h2 => by rw [upd_ne]; omega)⟩
  obtain ⟨h1, h2⟩ := hR.2.2.1
  refine ⟨by simp only [Nat.reduceAdd]; rw [pm_set_miss, upd_ne]; exact h1; all_goals (first | exact Or.inl (by decide) | exact Or.inr (by omega) | omega), fun i hi => ?_⟩
  · rw [lr_n_upd (by omega)] at hi
    simp only [Nat.reduceAdd]
    obtain ⟨q0, q1, q2, q3⟩ := h2 i hi
    by_cases e : i = j
    · subst e
      exact ⟨by rw [pm_set_hit, upd_eq], by rw [pm_set_miss, upd_ne]; exact q1; all_goals (first | exact Or.inl (by decide) | exact Or.inr (by omega) | omega), by rw [pm_set_miss, upd_ne]; exact q2; all_goals (first | exact Or.inl (by decide) | exact Or.inr (by omega) | omega), by rw [pm_set_miss, upd_ne]; exact q3; all_goals (first | exact Or.inl (by decide) | exact Or.inr (by omega) | omega)⟩
    · exact ⟨by rw [pm_set_miss, upd_ne]; exact q0; all_goals (first | exact Or.inl (by decide) | exact Or.inr (by omega) | omega), by rw [pm_set_miss, upd_ne]; exact q1; all_goals (first | exact Or.inl (by decide) | exact Or.inr (by omega) | omega), by rw [pm_set_miss, upd_ne]; exact q2; all_goals (first | exact Or.inl (by decide) | exact Or.inr (by omega) | omega), by rw [pm_set_miss, upd_ne]; exact q3; all_goals (first | exact Or.inl (by decide) | exact Or.inr (by omega) | omega)⟩
theorem lr_put_phe {μ : pm_Mm} {g : Nat → Int32} (hR : lr_Rel μ.1 1 g) (hB : lr_B g) {j : Nat} (hj : j < lr_n g 35) (v : Int32) : lr_Rel (pm_set μ 7 j v).1 1 (upd g (37 + 4 * j) v) := by
  obtain ⟨hm1, hm3, hm2, hm4, hm5, hm6⟩ := hB
  refine ⟨by rw [pm_set_off, upd_ne]; exact hR.1; all_goals omega, lr_Rh.st hR.2.1 hm1 (fun k h1 h2 => by rw [pm_set_off]; omega) (fun j h1 h2 => by rw [upd_ne]; omega), ?_, lr_Rw.st hR.2.2.2.1 hm2 (fun k h1 h2 => by rw [pm_set_off]; omega) (fun j h1 h2 => by rw [upd_ne]; omega), lr_Rr.st hR.2.2.2.2.1 hm4 (fun k h1 h2 => by rw [pm_set_off]; omega) (fun j h1 h2 => by rw [upd_ne]; omega), lr_Ra.st hR.2.2.2.2.2.1 hm5 (fun k h1 h2 => by rw [pm_set_off]; omega) (fun j h1 h2 => by rw [upd_ne]; omega), lr_Rl.st hR.2.2.2.2.2.2 hm6 (fun k h1 h2 => by rw [pm_set_off]; omega) (by rw [upd_ne]; omega) (fun j h1 h2 => by rw [upd_ne]; omega)⟩
  obtain ⟨h1, h2⟩ := hR.2.2.1
  refine ⟨by simp only [Nat.reduceAdd]; rw [pm_set_miss, upd_ne]; exact h1; all_goals (first | exact Or.inl (by decide) | exact Or.inr (by omega) | omega), fun i hi => ?_⟩
  · rw [lr_n_upd (by omega)] at hi
    simp only [Nat.reduceAdd]
    obtain ⟨q0, q1, q2, q3⟩ := h2 i hi
    by_cases e : i = j
    · subst e
      exact ⟨by rw [pm_set_miss, upd_ne]; exact q0; all_goals (first | exact Or.inl (by decide) | exact Or.inr (by omega) | omega), by rw [pm_set_hit, upd_eq], by rw [pm_set_miss, upd_ne]; exact q2; all_goals (first | exact Or.inl (by decide) | exact Or.inr (by omega) | omega), by rw [pm_set_miss, upd_ne]; exact q3; all_goals (first | exact Or.inl (by decide) | exact Or.inr (by omega) | omega)⟩
    · exact ⟨by rw [pm_set_miss, upd_ne]; exact q0; all_goals (first | exact Or.inl (by decide) | exact Or.inr (by omega) | omega), by rw [pm_set_miss, upd_ne]; exact q1; all_goals (first | exact Or.inl (by decide) | exact Or.inr (by omega) | omega), by rw [pm_set_miss, upd_ne]; exact q2; all_goals (first | exact Or.inl (by decide) | exact Or.inr (by omega) | omega), by rw [pm_set_miss, upd_ne]; exact q3; all_goals (first | exact Or.inl (by decide) | exact Or.inr (by omega) | omega)⟩
theorem lr_put_pli {μ : pm_Mm} {g : Nat → Int32} (hR : lr_Rel μ.1 1 g) (hB : lr_B g) {j : Nat} (hj : j < lr_n g 35) (v : Int32) : lr_Rel (pm_set μ 8 j v).1 1 (upd g (38 + 4 * j) v) := by
  obtain ⟨hm1, hm3, hm2, hm4, hm5, hm6⟩ := hB
  refine ⟨by rw [pm_set_off, upd_ne]; exact hR.1; all_goals omega, lr_Rh.st hR.2.1 hm1 (fun k h1 h2 => by rw [pm_set_off]; omega) (fun j h1 h2 => by rw [upd_ne]; omega), ?_, lr_Rw.st hR.2.2.2.1 hm2 (fun k h1 h2 => by rw [pm_set_off]; omega) (fun j h1 h2 => by rw [upd_ne]; omega), lr_Rr.st hR.2.2.2.2.1 hm4 (fun k h1 h2 => by rw [pm_set_off]; omega) (fun j h1 h2 => by rw [upd_ne]; omega), lr_Ra.st hR.2.2.2.2.2.1 hm5 (fun k h1 h2 => by rw [pm_set_off]; omega) (fun j h1 h2 => by rw [upd_ne]; omega), lr_Rl.st hR.2.2.2.2.2.2 hm6 (fun k h1 h2 => by rw [pm_set_off]; omega) (by rw [upd_ne]; omega) (fun j h1 h2 => by rw [upd_ne]; omega)⟩
  obtain ⟨h1, h2⟩ := hR.2.2.1
  refine ⟨by simp only [Nat.reduceAdd]; rw [pm_set_miss, upd_ne]; exact h1; all_goals (first | exact Or.inl (by decide) | exact Or.inr (by omega) | omega), fun i hi => ?_⟩
  · rw [lr_n_upd (by omega)] at hi
    simp only [Nat.reduceAdd]
    obtain ⟨q0, q1, q2, q3⟩ := h2 i hi
    by_cases e : i = j
    · subst e
      exact ⟨by rw [pm_set_miss, upd_ne]; exact q0; all_goals (first | exact Or.inl (by decide) | exact Or.inr (by omega) | omega), by rw [pm_set_miss, upd_ne]; exact q1; all_goals (first | exact Or.inl (by decide) | exact Or.inr (by omega) | omega), by rw [pm_set_hit, upd_eq], by rw [pm_set_miss, upd_ne]; exact q3; all_goals (first | exact Or.inl (by decide) | exact Or.inr (by omega) | omega)⟩
    · exact ⟨by rw [pm_set_miss, upd_ne]; exact q0; all_goals (first | exact Or.inl (by decide) | exact Or.inr (by omega) | omega), by rw [pm_set_miss, upd_ne]; exact q1; all_goals (first | exact Or.inl (by decide) | exact Or.inr (by omega) | omega), by rw [pm_set_miss, upd_ne]; exact q2; all_goals (first | exact Or.inl (by decide) | exact Or.inr (by omega) | omega), by rw [pm_set_miss, upd_ne]; exact q3; all_goals (first | exact Or.inl (by decide) | exact Or.inr (by omega) | omega)⟩
theorem lr_put_pal {μ : pm_Mm} {g : Nat → Int32} (hR : lr_Rel μ.1 1 g) (hB : lr_B g) {j : Nat} (hj : j < lr_n g 35) (v : Int32) : lr_Rel (pm_set μ 9 j v).1 1 (upd g (39 + 4 * j) v) := by
  obtain ⟨hm1, hm3, hm2, hm4, hm5, hm6⟩ := hB
  refine ⟨by rw [pm_set_off, upd_ne]; exact hR.1; all_goals omega, lr_Rh.st hR.2.1 hm1 (fun k h1 h2 => by rw [pm_set_off]; omega) (fun j h1 h2 => by rw [upd_ne]; omega), ?_, lr_Rw.st hR.2.2.2.1 hm2 (fun k h1 h2 => by rw [pm_set_off]; omega) (fun j h1 h2 => by rw [upd_ne]; omega), lr_Rr.st hR.2.2.2.2.1 hm4 (fun k h1 h2 => by rw [pm_set_off]; omega) (fun j h1 h2 => by rw [upd_ne]; omega), lr_Ra.st hR.2.2.2.2.2.1 hm5 (fun k h1 h2 => by rw [pm_set_off]; omega) (fun j h1 h2 => by rw [upd_ne]; omega), lr_Rl.st hR.2.2.2.2.2.2 hm6 (fun k h1 h2 => by rw [pm_set_off]; omega) (by rw [upd_ne]; omega) (fun j h1 h2 => by rw [upd_ne]; omega)⟩
  obtain ⟨h1, h2⟩ := hR.2.2.1
  refine ⟨by simp only [Nat.reduceAdd]; rw [pm_set_miss, upd_ne]; exact h1; all_goals (first | exact Or.inl (by decide) | exact Or.inr (by omega) | omega), fun i hi => ?_⟩
  · rw [lr_n_upd (by omega)] at hi
    simp only [Nat.reduceAdd]
    obtain ⟨q0, q1, q2, q3⟩ := h2 i hi
    by_cases e : i = j
    · subst e
      exact ⟨by rw [pm_set_miss, upd_ne]; exact q0; all_goals (first | exact Or.inl (by decide) | exact Or.inr (by omega) | omega), by rw [pm_set_miss, upd_ne]; exact q1; all_goals (first | exact Or.inl (by decide) | exact Or.inr (by omega) | omega), by rw [pm_set_miss, upd_ne]; exact q2; all_goals (first | exact Or.inl (by decide) | exact Or.inr (by omega) | omega), by rw [pm_set_hit, upd_eq]⟩
    · exact ⟨by rw [pm_set_miss, upd_ne]; exact q0; all_goals (first | exact Or.inl (by decide) | exact Or.inr (by omega) | omega), by rw [pm_set_miss, upd_ne]; exact q1; all_goals (first | exact Or.inl (by decide) | exact Or.inr (by omega) | omega), by rw [pm_set_miss, upd_ne]; exact q2; all_goals (first | exact Or.inl (by decide) | exact Or.inr (by omega) | omega), by rw [pm_set_miss, upd_ne]; exact q3; all_goals (first | exact Or.inl (by decide) | exact Or.inr (by omega) | omega)⟩
theorem lr_put_lpe {μ : pm_Mm} {g : Nat → Int32} (hR : lr_Rel μ.1 1 g) (hB : lr_B g) {j : Nat} (hj : j < lr_n g 289) (v : Int32) : lr_Rel (pm_set μ 27 j v).1 1 (upd g (290 + 11 * j) v) := by
  obtain ⟨hm1, hm3, hm2, hm4, hm5, hm6⟩ := hB
  refine ⟨by rw [pm_set_off, upd_ne]; exact hR.1; all_goals omega, lr_Rh.st hR.2.1 hm1 (fun k h1 h2 => by rw [pm_set_off]; omega) (fun j h1 h2 => by rw [upd_ne]; omega), lr_Rp.st hR.2.2.1 hm3 (fun k h1 h2 => by rw [pm_set_off]; omega) (fun j h1 h2 => by rw [upd_ne]; omega), lr_Rw.st hR.2.2.2.1 hm2 (fun k h1 h2 => by rw [pm_set_off]; omega) (fun j h1 h2 => by rw [upd_ne]; omega), lr_Rr.st hR.2.2.2.2.1 hm4 (fun k h1 h2 => by rw [pm_set_off]; omega) (fun j h1 h2 => by rw [upd_ne]; omega), lr_Ra.st hR.2.2.2.2.2.1 hm5 (fun k h1 h2 => by rw [pm_set_off]; omega) (fun j h1 h2 => by rw [upd_ne]; omega), ?_⟩
  obtain ⟨h0, h1, h2, h3⟩ := hR.2.2.2.2.2.2
  refine ⟨by simp only [Nat.reduceAdd]; rw [pm_set_miss, upd_ne]; exact h0; all_goals (first | exact Or.inl (by decide) | exact Or.inr (by omega) | omega), by simp only [Nat.reduceAdd]; rw [pm_set_miss, upd_ne]; exact h1; all_goals (first | exact Or.inl (by decide) | exact Or.inr (by omega) | omega), fun i hi => ?_, fun i d hi hd h9 => ?_⟩
  · rw [lr_n_upd (by omega)] at hi
    simp only [Nat.reduceAdd]
    obtain ⟨q0, q1, q2, q3, q4, q5, q6, q7, q8, q9, q10⟩ := h2 i hi
    by_cases e : i = j
    · subst e
      exact ⟨by rw [pm_set_hit, upd_eq], by rw [pm_set_miss, upd_ne]; exact q1; all_goals (first | exact Or.inl (by decide) | exact Or.inr (by omega) | omega), by rw [pm_set_miss, upd_ne]; exact q2; all_goals (first | exact Or.inl (by decide) | exact Or.inr (by omega) | omega), by rw [pm_set_miss, upd_ne]; exact q3; all_goals (first | exact Or.inl (by decide) | exact Or.inr (by omega) | omega), by rw [pm_set_miss, upd_ne]; exact q4; all_goals (first | exact Or.inl (by decide) | exact Or.inr (by omega) | omega), by rw [pm_set_miss, upd_ne]; exact q5; all_goals (first | exact Or.inl (by decide) | exact Or.inr (by omega) | omega), by rw [pm_set_miss, upd_ne]; exact q6; all_goals (first | exact Or.inl (by decide) | exact Or.inr (by omega) | omega), by rw [pm_set_miss, upd_ne]; exact q7; all_goals (first | exact Or.inl (by decide) | exact Or.inr (by omega) | omega), by rw [pm_set_miss, upd_ne]; exact q8; all_goals (first | exact Or.inl (by decide) | exact Or.inr (by omega) | omega), by rw [pm_set_miss, upd_ne]; exact q9; all_goals (first | exact Or.inl (by decide) | exact Or.inr (by omega) | omega), by rw [pm_set_miss, upd_ne]; exact q10; all_goals (first | exact Or.inl (by decide) | exact Or.inr (by omega) | omega)⟩
    · exact ⟨by rw [pm_set_miss, upd_ne]; exact q0; all_goals (first | exact Or.inl (by decide) | exact Or.inr (by omega) | omega), by rw [pm_set_miss, upd_ne]; exact q1; all_goals (first | exact Or.inl (by decide) | exact Or.inr (by omega) | omega), by rw [pm_set_miss, upd_ne]; exact q2; all_goals (first | exact Or.inl (by decide) | exact Or.inr (by omega) | omega), by rw [pm_set_miss, upd_ne]; exact q3; all_goals (first | exact Or.inl (by decide) | exact Or.inr (by omega) | omega), by rw [pm_set_miss, upd_ne]; exact q4; all_goals (first | exact Or.inl (by decide) | exact Or.inr (by omega) | omega), by rw [pm_set_miss, upd_ne]; exact q5; all_goals (first | exact Or.inl (by decide) | exact Or.inr (by omega) | omega), by rw [pm_set_miss, upd_ne]; exact q6; all_goals (first | exact Or.inl (by decide) | exact Or.inr (by omega) | omega), by rw [pm_set_miss, upd_ne]; exact q7; all_goals (first | exact Or.inl (by decide) | exact Or.inr (by omega) | omega), by rw [pm_set_miss, upd_ne]; exact q8; all_goals (first | exact Or.inl (by decide) | exact Or.inr (by omega) | omega), by rw [pm_set_miss, upd_ne]; exact q9; all_goals (first | exact Or.inl (by decide) | exact Or.inr (by omega) | omega), by rw [pm_set_miss, upd_ne]; exact q10; all_goals (first | exact Or.inl (by decide) | exact Or.inr (by omega) | omega)⟩
  · rw [lr_n_upd (by omega)] at hi
    rw [upd_ne (by omega)] at hd
    simp only [Nat.reduceAdd]
    rw [pm_set_miss]
    exact h3 i d hi hd h9
    (first | exact Or.inl (by decide) | exact Or.inr (by omega) | omega)
theorem lr_put_lwe {μ : pm_Mm} {g : Nat → Int32} (hR : lr_Rel μ.1 1 g) (hB : lr_B g) {j : Nat} (hj : j < lr_n g 289) (v : Int32) : lr_Rel (pm_set μ 28 j v).1 1 (upd g (291 + 11 * j) v) := by
  obtain ⟨hm1, hm3, hm2, hm4, hm5, hm6⟩ := hB
  refine ⟨by rw [pm_set_off, upd_ne]; exact hR.1; all_goals omega, lr_Rh.st hR.2.1 hm1 (fun k h1 h2 => by rw [pm_set_off]; omega) (fun j h1 h2 => by rw [upd_ne]; omega), lr_Rp.st hR.2.2.1 hm3 (fun k h1 h2 => by rw [pm_set_off]; omega) (fun j h1 h2 => by rw [upd_ne]; omega), lr_Rw.st hR.2.2.2.1 hm2 (fun k h1 h2 => by rw [pm_set_off]; omega) (fun j h1 h2 => by rw [upd_ne]; omega), lr_Rr.st hR.2.2.2.2.1 hm4 (fun k h1 h2 => by rw [pm_set_off]; omega) (fun j h1 h2 => by rw [upd_ne]; omega), lr_Ra.st hR.2.2.2.2.2.1 hm5 (fun k h1 h2 => by rw [pm_set_off]; omega) (fun j h1 h2 => by rw [upd_ne]; omega), ?_⟩
  obtain ⟨h0, h1, h2, h3⟩ := hR.2.2.2.2.2.2
  refine ⟨by simp only [Nat.reduceAdd]; rw [pm_set_miss, upd_ne]; exact h0; all_goals (first | exact Or.inl (by decide) | exact Or.inr (by omega) | omega), by simp only [Nat.reduceAdd]; rw [pm_set_miss, upd_ne]; exact h1; all_goals (first | exact Or.inl (by decide) | exact Or.inr (by omega) | omega), fun i hi => ?_, fun i d hi hd h9 => ?_⟩
  · rw [lr_n_upd (by omega)] at hi
    simp only [Nat.reduceAdd]
    obtain ⟨q0, q1, q2, q3, q4, q5, q6, q7, q8, q9, q10⟩ := h2 i hi
    by_cases e : i = j
    · subst e
      exact ⟨by rw [pm_set_miss, upd_ne]; exact q0; all_goals (first | exact Or.inl (by decide) | exact Or.inr (by omega) | omega), by rw [pm_set_hit, upd_eq], by rw [pm_set_miss, upd_ne]; exact q2; all_goals (first | exact Or.inl (by decide) | exact Or.inr (by omega) | omega), by rw [pm_set_miss, upd_ne]; exact q3; all_goals (first | exact Or.inl (by decide) | exact Or.inr (by omega) | omega), by rw [pm_set_miss, upd_ne]; exact q4; all_goals (first | exact Or.inl (by decide) | exact Or.inr (by omega) | omega), by rw [pm_set_miss, upd_ne]; exact q5; all_goals (first | exact Or.inl (by decide) | exact Or.inr (by omega) | omega), by rw [pm_set_miss, upd_ne]; exact q6; all_goals (first | exact Or.inl (by decide) | exact Or.inr (by omega) | omega), by rw [pm_set_miss, upd_ne]; exact q7; all_goals (first | exact Or.inl (by decide) | exact Or.inr (by omega) | omega), by rw [pm_set_miss, upd_ne]; exact q8; all_goals (first | exact Or.inl (by decide) | exact Or.inr (by omega) | omega), by rw [pm_set_miss, upd_ne]; exact q9; all_goals (first | exact Or.inl (by decide) | exact Or.inr (by omega) | omega), by rw [pm_set_miss, upd_ne]; exact q10; all_goals (first | exact Or.inl (by decide) | exact Or.inr (by omega) | omega)⟩
    · exact ⟨by rw [pm_set_miss, upd_ne]; exact q0; all_goals (first | exact Or.inl (by decide) | exact Or.inr (by omega) | omega), by rw [pm_set_miss, upd_ne]; exact q1; all_goals (first | exact Or.inl (by decide) | exact Or.inr (by omega) | omega), by rw [pm_set_miss, upd_ne]; exact q2; all_goals (first | exact Or.inl (by decide) | exact Or.inr (by omega) | omega), by rw [pm_set_miss, upd_ne]; exact q3; all_goals (first | exact Or.inl (by decide) | exact Or.inr (by omega) | omega), by rw [pm_set_miss, upd_ne]; exact q4; all_goals (first | exact Or.inl (by decide) | exact Or.inr (by omega) | omega), by rw [pm_set_miss, upd_ne]; exact q5; all_goals (first | exact Or.inl (by decide) | exact Or.inr (by omega) | omega), by rw [pm_set_miss, upd_ne]; exact q6; all_goals (first | exact Or.inl (by decide) | exact Or.inr (by omega) | omega), by rw [pm_set_miss, upd_ne]; exact q7; all_goals (first | exact Or.inl (by decide) | exact Or.inr (by omega) | omega), by rw [pm_set_miss, upd_ne]; exact q8; all_goals (first | exact Or.inl (by decide) | exact Or.inr (by omega) | omega), by rw [pm_set_miss, upd_ne]; exact q9; all_goals (first | exact Or.inl (by decide) | exact Or.inr (by omega) | omega), by rw [pm_set_miss, upd_ne]; exact q10; all_goals (first | exact Or.inl (by decide) | exact Or.inr (by omega) | omega)⟩
  · rw [lr_n_upd (by omega)] at hi
    rw [upd_ne (by omega)] at hd
    simp only [Nat.reduceAdd]
    rw [pm_set_miss]
    exact h3 i d hi hd h9
    (first | exact Or.inl (by decide) | exact Or.inr (by omega) | omega)
theorem lr_put_lre {μ : pm_Mm} {g : Nat → Int32} (hR : lr_Rel μ.1 1 g) (hB : lr_B g) {j : Nat} (hj : j < lr_n g 289) (v : Int32) : lr_Rel (pm_set μ 29 j v).1 1 (upd g (292 + 11 * j) v) := by
  obtain ⟨hm1, hm3, hm2, hm4, hm5, hm6⟩ := hB
  refine ⟨by rw [pm_set_off, upd_ne]; exact hR.1; all_goals omega, lr_Rh.st hR.2.1 hm1 (fun k h1 h2 => by rw [pm_set_off]; omega) (fun j h1 h2 => by rw [upd_ne]; omega), lr_Rp.st hR.2.2.1 hm3 (fun k h1 h2 => by rw [pm_set_off]; omega) (fun j h1 h2 => by rw [upd_ne]; omega), lr_Rw.st hR.2.2.2.1 hm2 (fun k h1 h2 => by rw [pm_set_off]; omega) (fun j h1 h2 => by rw [upd_ne]; omega), lr_Rr.st hR.2.2.2.2.1 hm4 (fun k h1 h2 => by rw [pm_set_off]; omega) (fun j h1 h2 => by rw [upd_ne]; omega), lr_Ra.st hR.2.2.2.2.2.1 hm5 (fun k h1 h2 => by rw [pm_set_off]; omega) (fun j h1 h2 => by rw [upd_ne]; omega), ?_⟩
  obtain ⟨h0, h1, h2, h3⟩ := hR.2.2.2.2.2.2
  refine ⟨by simp only [Nat.reduceAdd]; rw [pm_set_miss, upd_ne]; exact h0; all_goals (first | exact Or.inl (by decide) | exact Or.inr (by omega) | omega), by simp only [Nat.reduceAdd]; rw [pm_set_miss, upd_ne]; exact h1; all_goals (first | exact Or.inl (by decide) | exact Or.inr (by omega) | omega), fun i hi => ?_, fun i d hi hd h9 => ?_⟩
  · rw [lr_n_upd (by omega)] at hi
    simp only [Nat.reduceAdd]
    obtain ⟨q0, q1, q2, q3, q4, q5, q6, q7, q8, q9, q10⟩ := h2 i hi
    by_cases e : i = j
    · subst e
      exact ⟨by rw [pm_set_miss, upd_ne]; exact q0; all_goals (first | exact Or.inl (by decide) | exact Or.inr (by omega) | omega), by rw [pm_set_miss, upd_ne]; exact q1; all_goals (first | exact Or.inl (by decide) | exact Or.inr (by omega) | omega), by rw [pm_set_hit, upd_eq], by rw [pm_set_miss, upd_ne]; exact q3; all_goals (first | exact Or.inl (by decide) | exact Or.inr (by omega) | omega), by rw [pm_set_miss, upd_ne]; exact q4; all_goals (first | exact Or.inl (by decide) | exact Or.inr (by omega) | omega), by rw [pm_set_miss, upd_ne]; exact q5; all_goals (first | exact Or.inl (by decide) | exact Or.inr (by omega) | omega), by rw [pm_set_miss, upd_ne]; exact q6; all_goals (first | exact Or.inl (by decide) | exact Or.inr (by omega) | omega), by rw [pm_set_miss, upd_ne]; exact q7; all_goals (first | exact Or.inl (by decide) | exact Or.inr (by omega) | omega), by rw [pm_set_miss, upd_ne]; exact q8; all_goals (first | exact Or.inl (by decide) | exact Or.inr (by omega) | omega), by rw [pm_set_miss, upd_ne]; exact q9; all_goals (first | exact Or.inl (by decide) | exact Or.inr (by omega) | omega), by rw [pm_set_miss, upd_ne]; exact q10; all_goals (first | exact Or.inl (by decide) | exact Or.inr (by omega) | omega)⟩
    · exact ⟨by rw [pm_set_miss, upd_ne]; exact q0; all_goals (first | exact Or.inl (by decide) | exact Or.inr (by omega) | omega), by rw [pm_set_miss, upd_ne]; exact q1; all_goals (first | exact Or.inl (by decide) | exact Or.inr (by omega) | omega), by rw [pm_set_miss, upd_ne]; exact q2; all_goals (first | exact Or.inl (by decide) | exact Or.inr (by omega) | omega), by rw [pm_set_miss, upd_ne]; exact q3; all_goals (first | exact Or.inl (by decide) | exact Or.inr (by omega) | omega), by rw [pm_set_miss, upd_ne]; exact q4; all_goals (first | exact Or.inl (by decide) | exact Or.inr (by omega) | omega), by rw [pm_set_miss, upd_ne]; exact q5; all_goals (first | exact Or.inl (by decide) | exact Or.inr (by omega) | omega), by rw [pm_set_miss, upd_ne]; exact q6; all_goals (first | exact Or.inl (by decide) | exact Or.inr (by omega) | omega), by rw [pm_set_miss, upd_ne]; exact q7; all_goals (first | exact Or.inl (by decide) | exact Or.inr (by omega) | omega), by rw [pm_set_miss, upd_ne]; exact q8; all_goals (first | exact Or.inl (by decide) | exact Or.inr (by omega) | omega), by rw [pm_set_miss, upd_ne]; exact q9; all_goals (first | exact Or.inl (by decide) | exact Or.inr (by omega) | omega), by rw [pm_set_miss, upd_ne]; exact q10; all_goals (first | exact Or.inl (by decide) | exact Or.inr (by omega) | omega)⟩
  · rw [lr_n_upd (by omega)] at hi
    rw [upd_ne (by omega)] at hd
    simp only [Nat.reduceAdd]
    rw [pm_set_miss]
    exact h3 i d hi hd h9
    (first | exact Or.inl (by decide) | exact Or.inr (by omega) | omega)
theorem lr_put_lca {μ : pm_Mm} {g : Nat → Int32} (hR : lr_Rel μ.1 1 g) (hB : lr_B g) {j : Nat} (hj : j < lr_n g 289) (v : Int32) : lr_Rel (pm_set μ 30 j v).1 1 (upd g (293 + 11 * j) v) := by
  obtain ⟨hm1, hm3, hm2, hm4, hm5, hm6⟩ := hB
  refine ⟨by rw [pm_set_off, upd_ne]; exact hR.1; all_goals omega, lr_Rh.st hR.2.1 hm1 (fun k h1 h2 => by rw [pm_set_off]; omega) (fun j h1 h2 => by rw [upd_ne]; omega), lr_Rp.st hR.2.2.1 hm3 (fun k h1 h2 => by rw [pm_set_off]; omega) (fun j h1 h2 => by rw [upd_ne]; omega), lr_Rw.st hR.2.2.2.1 hm2 (fun k h1 h2 => by rw [pm_set_off]; omega) (fun j h1 h2 => by rw [upd_ne]; omega), lr_Rr.st hR.2.2.2.2.1 hm4 (fun k h1 h2 => by rw [pm_set_off]; omega) (fun j h1 h2 => by rw [upd_ne]; omega), lr_Ra.st hR.2.2.2.2.2.1 hm5 (fun k h1 h2 => by rw [pm_set_off]; omega) (fun j h1 h2 => by rw [upd_ne]; omega), ?_⟩
  obtain ⟨h0, h1, h2, h3⟩ := hR.2.2.2.2.2.2
  refine ⟨by simp only [Nat.reduceAdd]; rw [pm_set_miss, upd_ne]; exact h0; all_goals (first | exact Or.inl (by decide) | exact Or.inr (by omega) | omega), by simp only [Nat.reduceAdd]; rw [pm_set_miss, upd_ne]; exact h1; all_goals (first | exact Or.inl (by decide) | exact Or.inr (by omega) | omega), fun i hi => ?_, fun i d hi hd h9 => ?_⟩
  · rw [lr_n_upd (by omega)] at hi
    simp only [Nat.reduceAdd]
    obtain ⟨q0, q1, q2, q3, q4, q5, q6, q7, q8, q9, q10⟩ := h2 i hi
    by_cases e : i = j
    · subst e
      exact ⟨by rw [pm_set_miss, upd_ne]; exact q0; all_goals (first | exact Or.inl (by decide) | exact Or.inr (by omega) | omega), by rw [pm_set_miss, upd_ne]; exact q1; all_goals (first | exact Or.inl (by decide) | exact Or.inr (by omega) | omega), by rw [pm_set_miss, upd_ne]; exact q2; all_goals (first | exact Or.inl (by decide) | exact Or.inr (by omega) | omega), by rw [pm_set_hit, upd_eq], by rw [pm_set_miss, upd_ne]; exact q4; all_goals (first | exact Or.inl (by decide) | exact Or.inr (by omega) | omega), by rw [pm_set_miss, upd_ne]; exact q5; all_goals (first | exact Or.inl (by decide) | exact Or.inr (by omega) | omega), by rw [pm_set_miss, upd_ne]; exact q6; all_goals (first | exact Or.inl (by decide) | exact Or.inr (by omega) | omega), by rw [pm_set_miss, upd_ne]; exact q7; all_goals (first | exact Or.inl (by decide) | exact Or.inr (by omega) | omega), by rw [pm_set_miss, upd_ne]; exact q8; all_goals (first | exact Or.inl (by decide) | exact Or.inr (by omega) | omega), by rw [pm_set_miss, upd_ne]; exact q9; all_goals (first | exact Or.inl (by decide) | exact Or.inr (by omega) | omega), by rw [pm_set_miss, upd_ne]; exact q10; all_goals (first | exact Or.inl (by decide) | exact Or.inr (by omega) | omega)⟩
    · exact ⟨by rw [pm_set_miss, upd_ne]; exact q0; all_goals (first | exact Or.inl (by decide) | exact Or.inr (by omega) | omega), by rw [pm_set_miss, upd_ne]; exact q1; all_goals (first | exact Or.inl (by decide) | exact Or.inr (by omega) | omega), by rw [pm_set_miss, upd_ne]; exact q2; all_goals (first | exact Or.inl (by decide) | exact Or.inr (by omega) | omega), by rw [pm_set_miss, upd_ne]; exact q3; all_goals (first | exact Or.inl (by decide) | exact Or.inr (by omega) | omega), by rw [pm_set_miss, upd_ne]; exact q4; all_goals (first | exact Or.inl (by decide) | exact Or.inr (by omega) | omega), by rw [pm_set_miss, upd_ne]; exact q5; all_goals (first | exact Or.inl (by decide) | exact Or.inr (by omega) | omega), by rw [pm_set_miss, upd_ne]; exact q6; all_goals (first | exact Or.inl (by decide) | exact Or.inr (by omega) | omega), by rw [pm_set_miss, upd_ne]; exact q7; all_goals (first | exact Or.inl (by decide) | exact Or.inr (by omega) | omega), by rw [pm_set_miss, upd_ne]; exact q8; all_goals (first | exact Or.inl (by decide) | exact Or.inr (by omega) | omega), by rw [pm_set_miss, upd_ne]; exact q9; all_goals (first | exact Or.inl (by decide) | exact Or.inr (by omega) | omega), by rw [pm_set_miss, upd_ne]; exact q10; all_goals (first | exact Or.inl (by decide) | exact Or.inr (by omega) | omega)⟩
  · rw [lr_n_upd (by omega)] at hi
    rw [upd_ne (by omega)] at hd
    simp only [Nat.reduceAdd]
    rw [pm_set_miss]
    exact h3 i d hi hd h9
    (first | exact Or.inl (by decide) | exact Or.inr (by omega) | omega)
theorem lr_put_lst {μ : pm_Mm} {g : Nat → Int32} (hR : lr_Rel μ.1 1 g) (hB : lr_B g) {j : Nat} (hj : j < lr_n g 289) (v : Int32) : lr_Rel (pm_set μ 31 j v).1 1 (upd g (294 + 11 * j) v) := by
  obtain ⟨hm1, hm3, hm2, hm4, hm5, hm6⟩ := hB
  refine ⟨by rw [pm_set_off, upd_ne]; exact hR.1; all_goals omega, lr_Rh.st hR.2.1 hm1 (fun k h1 h2 => by rw [pm_set_off]; omega) (fun j h1 h2 => by rw [upd_ne]; omega), lr_Rp.st hR.2.2.1 hm3 (fun k h1 h2 => by rw [pm_set_off]; omega) (fun j h1 h2 => by rw [upd_ne]; omega), lr_Rw.st hR.2.2.2.1 hm2 (fun k h1 h2 => by rw [pm_set_off]; omega) (fun j h1 h2 => by rw [upd_ne]; omega), lr_Rr.st hR.2.2.2.2.1 hm4 (fun k h1 h2 => by rw [pm_set_off]; omega) (fun j h1 h2 => by rw [upd_ne]; omega), lr_Ra.st hR.2.2.2.2.2.1 hm5 (fun k h1 h2 => by rw [pm_set_off]; omega) (fun j h1 h2 => by rw [upd_ne]; omega), ?_⟩
  obtain ⟨h0, h1, h2, h3⟩ := hR.2.2.2.2.2.2
  refine ⟨by simp only [Nat.reduceAdd]; rw [pm_set_miss, upd_ne]; exact h0; all_goals (first | exact Or.inl (by decide) | exact Or.inr (by omega) | omega), by simp only [Nat.reduceAdd]; rw [pm_set_miss, upd_ne]; exact h1; all_goals (first | exact Or.inl (by decide) | exact Or.inr (by omega) | omega), fun i hi => ?_, fun i d hi hd h9 => ?_⟩
  · rw [lr_n_upd (by omega)] at hi
    simp only [Nat.reduceAdd]
    obtain ⟨q0, q1, q2, q3, q4, q5, q6, q7, q8, q9, q10⟩ := h2 i hi
    by_cases e : i = j
    · subst e
      exact ⟨by rw [pm_set_miss, upd_ne]; exact q0; all_goals (first | exact Or.inl (by decide) | exact Or.inr (by omega) | omega), by rw [pm_set_miss, upd_ne]; exact q1; all_goals (first | exact Or.inl (by decide) | exact Or.inr (by omega) | omega), by rw [pm_set_miss, upd_ne]; exact q2; all_goals (first | exact Or.inl (by decide) | exact Or.inr (by omega) | omega), by rw [pm_set_miss, upd_ne]; exact q3; all_goals (first | exact Or.inl (by decide) | exact Or.inr (by omega) | omega), by rw [pm_set_hit, upd_eq], by rw [pm_set_miss, upd_ne]; exact q5; all_goals (first | exact Or.inl (by decide) | exact Or.inr (by omega) | omega), by rw [pm_set_miss, upd_ne]; exact q6; all_goals (first | exact Or.inl (by decide) | exact Or.inr (by omega) | omega), by rw [pm_set_miss, upd_ne]; exact q7; all_goals (first | exact Or.inl (by decide) | exact Or.inr (by omega) | omega), by rw [pm_set_miss, upd_ne]; exact q8; all_goals (first | exact Or.inl (by decide) | exact Or.inr (by omega) | omega), by rw [pm_set_miss, upd_ne]; exact q9; all_goals (first | exact Or.inl (by decide) | exact Or.inr (by omega) | omega), by rw [pm_set_miss, upd_ne]; exact q10; all_goals (first | exact Or.inl (by decide) | exact Or.inr (by omega) | omega)⟩
    · exact ⟨by rw [pm_set_miss, upd_ne]; exact q0; all_goals (first | exact Or.inl (by decide) | exact Or.inr (by omega) | omega), by rw [pm_set_miss, upd_ne]; exact q1; all_goals (first | exact Or.inl (by decide) | exact Or.inr (by omega) | omega), by rw [pm_set_miss, upd_ne]; exact q2; all_goals (first | exact Or.inl (by decide) | exact Or.inr (by omega) | omega), by rw [pm_set_miss, upd_ne]; exact q3; all_goals (first | exact Or.inl (by decide) | exact Or.inr (by omega) | omega), by rw [pm_set_miss, upd_ne]; exact q4; all_goals (first | exact Or.inl (by decide) | exact Or.inr (by omega) | omega), by rw [pm_set_miss, upd_ne]; exact q5; all_goals (first | exact Or.inl (by decide) | exact Or.inr (by omega) | omega), by rw [pm_set_miss, upd_ne]; exact q6; all_goals (first | exact Or.inl (by decide) | exact Or.inr (by omega) | omega), by rw [pm_set_miss, upd_ne]; exact q7; all_goals (first | exact Or.inl (by decide) | exact Or.inr (by omega) | omega), by rw [pm_set_miss, upd_ne]; exact q8; all_goals (first | exact Or.inl (by decide) | exact Or.inr (by omega) | omega), by rw [pm_set_miss, upd_ne]; exact q9; all_goals (first | exact Or.inl (by decide) | exact Or.inr (by omega) | omega), by rw [pm_set_miss, upd_ne]; exact q10; all_goals (first | exact Or.inl (by decide) | exact Or.inr (by omega) | omega)⟩
  · rw [lr_n_upd (by omega)] at hi
    rw [upd_ne (by omega)] at hd
    simp only [Nat.reduceAdd]
    rw [pm_set_miss]
    exact h3 i d hi hd h9
    (first | exact Or.inl (by decide) | exact Or.inr (by omega) | omega)
theorem lr_put_len {μ : pm_Mm} {g : Nat → Int32} (hR : lr_Rel μ.1 1 g) (hB : lr_B g) {j : Nat} (hj : j < lr_n g 289) (v : Int32) : lr_Rel (pm_set μ 32 j v).1 1 (upd g (295 + 11 * j) v) := by
  obtain ⟨hm1, hm3, hm2, hm4, hm5, hm6⟩ := hB
  refine ⟨by rw [pm_set_off, upd_ne]; exact hR.1; all_goals omega, lr_Rh.st hR.2.1 hm1 (fun k h1 h2 => by rw [pm_set_off]; omega) (fun j h1 h2 => by rw [upd_ne]; omega), lr_Rp.st hR.2.2.1 hm3 (fun k h1 h2 => by rw [pm_set_off]; omega) (fun j h1 h2 => by rw [upd_ne]; omega), lr_Rw.st hR.2.2.2.1 hm2 (fun k h1 h2 => by rw [pm_set_off]; omega) (fun j h1 h2 => by rw [upd_ne]; omega), lr_Rr.st hR.2.2.2.2.1 hm4 (fun k h1 h2 => by rw [pm_set_off]; omega) (fun j h1 h2 => by rw [upd_ne]; omega), lr_Ra.st hR.2.2.2.2.2.1 hm5 (fun k h1 h2 => by rw [pm_set_off]; omega) (fun j h1 h2 => by rw [upd_ne]; omega), ?_⟩
  obtain ⟨h0, h1, h2, h3⟩ := hR.2.2.2.2.2.2
  refine ⟨by simp only [Nat.reduceAdd]; rw [pm_set_miss, upd_ne]; exact h0; all_goals (first | exact Or.inl (by decide) | exact Or.inr (by omega) | omega), by simp only [Nat.reduceAdd]; rw [pm_set_miss, upd_ne]; exact h1; all_goals (first | exact Or.inl (by decide) | exact Or.inr (by omega) | omega), fun i hi => ?_, fun i d hi hd h9 => ?_⟩
  · rw [lr_n_upd (by omega)] at hi
    simp only [Nat.reduceAdd]
    obtain ⟨q0, q1, q2, q3, q4, q5, q6, q7, q8, q9, q10⟩ := h2 i hi
    by_cases e : i = j
    · subst e
      exact ⟨by rw [pm_set_miss, upd_ne]; exact q0; all_goals (first | exact Or.inl (by decide) | exact Or.inr (by omega) | omega), by rw [pm_set_miss, upd_ne]; exact q1; all_goals (first | exact Or.inl (by decide) | exact Or.inr (by omega) | omega), by rw [pm_set_miss, upd_ne]; exact q2; all_goals (first | exact Or.inl (by decide) | exact Or.inr (by omega) | omega), by rw [pm_set_miss, upd_ne]; exact q3; all_goals (first | exact Or.inl (by decide) | exact Or.inr (by omega) | omega), by rw [pm_set_miss, upd_ne]; exact q4; all_goals (first | exact Or.inl (by decide) | exact Or.inr (by omega) | omega), by rw [pm_set_hit, upd_eq], by rw [pm_set_miss, upd_ne]; exact q6; all_goals (first | exact Or.inl (by decide) | exact Or.inr (by omega) | omega), by rw [pm_set_miss, upd_ne]; exact q7; all_goals (first | exact Or.inl (by decide) | exact Or.inr (by omega) | omega), by rw [pm_set_miss, upd_ne]; exact q8; all_goals (first | exact Or.inl (by decide) | exact Or.inr (by omega) | omega), by rw [pm_set_miss, upd_ne]; exact q9; all_goals (first | exact Or.inl (by decide) | exact Or.inr (by omega) | omega), by rw [pm_set_miss, upd_ne]; exact q10; all_goals (first | exact Or.inl (by decide) | exact Or.inr (by omega) | omega)⟩
    · exact ⟨by rw [pm_set_miss, upd_ne]; exact q0; all_goals (first | exact Or.inl (by decide) | exact Or.inr (by omega) | omega), by rw [pm_set_miss, upd_ne]; exact q1; all_goals (first | exact Or.inl (by decide) | exact Or.inr (by omega) | omega), by rw [pm_set_miss, upd_ne]; exact q2; all_goals (first | exact Or.inl (by decide) | exact Or.inr (by omega) | omega), by rw [pm_set_miss, upd_ne]; exact q3; all_goals (first | exact Or.inl (by decide) | exact Or.inr (by omega) | omega), by rw [pm_set_miss, upd_ne]; exact q4; all_goals (first | exact Or.inl (by decide) | exact Or.inr (by omega) | omega), by rw [pm_set_miss, upd_ne]; exact q5; all_goals (first | exact Or.inl (by decide) | exact Or.inr (by omega) | omega), by rw [pm_set_miss, upd_ne]; exact q6; all_goals (first | exact Or.inl (by decide) | exact Or.inr (by omega) | omega), by rw [pm_set_miss, upd_ne]; exact q7; all_goals (first | exact Or.inl (by decide) | exact Or.inr (by omega) | omega), by rw [pm_set_miss, upd_ne]; exact q8; all_goals (first | exact Or.inl (by decide) | exact Or.inr (by omega) | omega), by rw [pm_set_miss, upd_ne]; exact q9; all_goals (first | exact Or.inl (by decide) | exact Or.inr (by omega) | omega), by rw [pm_set_miss, upd_ne]; exact q10; all_goals (first | exact Or.inl (by decide) | exact Or.inr (by omega) | omega)⟩
  · rw [lr_n_upd (by omega)] at hi
    rw [upd_ne (by omega)] at hd
    simp only [Nat.reduceAdd]
    rw [pm_set_miss]
    exact h3 i d hi hd h9
    (first | exact Or.inl (by decide) | exact Or.inr (by omega) | omega)
theorem lr_put_lrs {μ : pm_Mm} {g : Nat → Int32} (hR : lr_Rel μ.1 1 g) (hB : lr_B g) {j : Nat} (hj : j < lr_n g 289) (v : Int32) : lr_Rel (pm_set μ 33 j v).1 1 (upd g (296 + 11 * j) v) := by
  obtain ⟨hm1, hm3, hm2, hm4, hm5, hm6⟩ := hB
  refine ⟨by rw [pm_set_off, upd_ne]; exact hR.1; all_goals omega, lr_Rh.st hR.2.1 hm1 (fun k h1 h2 => by rw [pm_set_off]; omega) (fun j h1 h2 => by rw [upd_ne]; omega), lr_Rp.st hR.2.2.1 hm3 (fun k h1 h2 => by rw [pm_set_off]; omega) (fun j h1 h2 => by rw [upd_ne]; omega), lr_Rw.st hR.2.2.2.1 hm2 (fun k h1 h2 => by rw [pm_set_off]; omega) (fun j h1 h2 => by rw [upd_ne]; omega), lr_Rr.st hR.2.2.2.2.1 hm4 (fun k h1 h2 => by rw [pm_set_off]; omega) (fun j h1 h2 => by rw [upd_ne]; omega), lr_Ra.st hR.2.2.2.2.2.1 hm5 (fun k h1 h2 => by rw [pm_set_off]; omega) (fun j h1 h2 => by rw [upd_ne]; omega), ?_⟩
  obtain ⟨h0, h1, h2, h3⟩ := hR.2.2.2.2.2.2
  refine ⟨by simp only [Nat.reduceAdd]; rw [pm_set_miss, upd_ne]; exact h0; all_goals (first | exact Or.inl (by decide) | exact Or.inr (by omega) | omega), by simp only [Nat.reduceAdd]; rw [pm_set_miss, upd_ne]; exact h1; all_goals (first | exact Or.inl (by decide) | exact Or.inr (by omega) | omega), fun i hi => ?_, fun i d hi hd h9 => ?_⟩
  · rw [lr_n_upd (by omega)] at hi
    simp only [Nat.reduceAdd]
    obtain ⟨q0, q1, q2, q3, q4, q5, q6, q7, q8, q9, q10⟩ := h2 i hi
    by_cases e : i = j
    · subst e
      exact ⟨by rw [pm_set_miss, upd_ne]; exact q0; all_goals (first | exact Or.inl (by decide) | exact Or.inr (by omega) | omega), by rw [pm_set_miss, upd_ne]; exact q1; all_goals (first | exact Or.inl (by decide) | exact Or.inr (by omega) | omega), by rw [pm_set_miss, upd_ne]; exact q2; all_goals (first | exact Or.inl (by decide) | exact Or.inr (by omega) | omega), by rw [pm_set_miss, upd_ne]; exact q3; all_goals (first | exact Or.inl (by decide) | exact Or.inr (by omega) | omega), by rw [pm_set_miss, upd_ne]; exact q4; all_goals (first | exact Or.inl (by decide) | exact Or.inr (by omega) | omega), by rw [pm_set_miss, upd_ne]; exact q5; all_goals (first | exact Or.inl (by decide) | exact Or.inr (by omega) | omega), by rw [pm_set_hit, upd_eq], by rw [pm_set_miss, upd_ne]; exact q7; all_goals (first | exact Or.inl (by decide) | exact Or.inr (by omega) | omega), by rw [pm_set_miss, upd_ne]; exact q8; all_goals (first | exact Or.inl (by decide) | exact Or.inr (by omega) | omega), by rw [pm_set_miss, upd_ne]; exact q9; all_goals (first | exact Or.inl (by decide) | exact Or.inr (by omega) | omega), by rw [pm_set_miss, upd_ne]; exact q10; all_goals (first | exact Or.inl (by decide) | exact Or.inr (by omega) | omega)⟩
    · exact ⟨by rw [pm_set_miss, upd_ne]; exact q0; all_goals (first | exact Or.inl (by decide) | exact Or.inr (by omega) | omega), by rw [pm_set_miss, upd_ne]; exact q1; all_goals (first | exact Or.inl (by decide) | exact Or.inr (by omega) | omega), by rw [pm_set_miss, upd_ne]; exact q2; all_goals (first | exact Or.inl (by decide) | exact Or.inr (by omega) | omega), by rw [pm_set_miss, upd_ne]; exact q3; all_goals (first | exact Or.inl (by decide) | exact Or.inr (by omega) | omega), by rw [pm_set_miss, upd_ne]; exact q4; all_goals (first | exact Or.inl (by decide) | exact Or.inr (by omega) | omega), by rw [pm_set_miss, upd_ne]; exact q5; all_goals (first | exact Or.inl (by decide) | exact Or.inr (by omega) | omega), by rw [pm_set_miss, upd_ne]; exact q6; all_goals (first | exact Or.inl (by decide) | exact Or.inr (by omega) | omega), by rw [pm_set_miss, upd_ne]; exact q7; all_goals (first | exact Or.inl (by decide) | exact Or.inr (by omega) | omega), by rw [pm_set_miss, upd_ne]; exact q8; all_goals (first | exact Or.inl (by decide) | exact Or.inr (by omega) | omega), by rw [pm_set_miss, upd_ne]; exact q9; all_goals (first | exact Or.inl (by decide) | exact Or.inr (by omega) | omega), by rw [pm_set_miss, upd_ne]; exact q10; all_goals (first | exact Or.inl (by decide) | exact Or.inr (by omega) | omega)⟩
  · rw [lr_n_upd (by omega)] at hi
    rw [upd_ne (by omega)] at hd
    simp only [Nat.reduceAdd]
    rw [pm_set_miss]
    exact h3 i d hi hd h9
    (first | exact Or.inl (by decide) | exact Or.inr (by omega) | omega)
theorem lr_put_ltr {μ : pm_Mm} {g : Nat → Int32} (hR : lr_Rel μ.1 1 g) (hB : lr_B g) {j : Nat} (hj : j < lr_n g 289) (v : Int32) : lr_Rel (pm_set μ 34 j v).1 1 (upd g (297 + 11 * j) v) := by
  obtain ⟨hm1, hm3, hm2, hm4, hm5, hm6⟩ := hB
  refine ⟨by rw [pm_set_off, upd_ne]; exact hR.1; all_goals omega, lr_Rh.st hR.2.1 hm1 (fun k h1 h2 => by rw [pm_set_off]; omega) (fun j h1 h2 => by rw [upd_ne]; omega), lr_Rp.st hR.2.2.1 hm3 (fun k h1 h2 => by rw [pm_set_off]; omega) (fun j h1 h2 => by rw [upd_ne]; omega), lr_Rw.st hR.2.2.2.1 hm2 (fun k h1 h2 => by rw [pm_set_off]; omega) (fun j h1 h2 => by rw [upd_ne]; omega), lr_Rr.st hR.2.2.2.2.1 hm4 (fun k h1 h2 => by rw [pm_set_off]; omega) (fun j h1 h2 => by rw [upd_ne]; omega), lr_Ra.st hR.2.2.2.2.2.1 hm5 (fun k h1 h2 => by rw [pm_set_off]; omega) (fun j h1 h2 => by rw [upd_ne]; omega), ?_⟩
  obtain ⟨h0, h1, h2, h3⟩ := hR.2.2.2.2.2.2
  refine ⟨by simp only [Nat.reduceAdd]; rw [pm_set_miss, upd_ne]; exact h0; all_goals (first | exact Or.inl (by decide) | exact Or.inr (by omega) | omega), by simp only [Nat.reduceAdd]; rw [pm_set_miss, upd_ne]; exact h1; all_goals (first | exact Or.inl (by decide) | exact Or.inr (by omega) | omega), fun i hi => ?_, fun i d hi hd h9 => ?_⟩
  · rw [lr_n_upd (by omega)] at hi
    simp only [Nat.reduceAdd]
    obtain ⟨q0, q1, q2, q3, q4, q5, q6, q7, q8, q9, q10⟩ := h2 i hi
    by_cases e : i = j
    · subst e
      exact ⟨by rw [pm_set_miss, upd_ne]; exact q0; all_goals (first | exact Or.inl (by decide) | exact Or.inr (by omega) | omega), by rw [pm_set_miss, upd_ne]; exact q1; all_goals (first | exact Or.inl (by decide) | exact Or.inr (by omega) | omega), by rw [pm_set_miss, upd_ne]; exact q2; all_goals (first | exact Or.inl (by decide) | exact Or.inr (by omega) | omega), by rw [pm_set_miss, upd_ne]; exact q3; all_goals (first | exact Or.inl (by decide) | exact Or.inr (by omega) | omega), by rw [pm_set_miss, upd_ne]; exact q4; all_goals (first | exact Or.inl (by decide) | exact Or.inr (by omega) | omega), by rw [pm_set_miss, upd_ne]; exact q5; all_goals (first | exact Or.inl (by decide) | exact Or.inr (by omega) | omega), by rw [pm_set_miss, upd_ne]; exact q6; all_goals (first | exact Or.inl (by decide) | exact Or.inr (by omega) | omega), by rw [pm_set_hit, upd_eq], by rw [pm_set_miss, upd_ne]; exact q8; all_goals (first | exact Or.inl (by decide) | exact Or.inr (by omega) | omega), by rw [pm_set_miss, upd_ne]; exact q9; all_goals (first | exact Or.inl (by decide) | exact Or.inr (by omega) | omega), by rw [pm_set_miss, upd_ne]; exact q10; all_goals (first | exact Or.inl (by decide) | exact Or.inr (by omega) | omega)⟩
    · exact ⟨by rw [pm_set_miss, upd_ne]; exact q0; all_goals (first | exact Or.inl (by decide) | exact Or.inr (by omega) | omega), by rw [pm_set_miss, upd_ne]; exact q1; all_goals (first | exact Or.inl (by decide) | exact Or.inr (by omega) | omega), by rw [pm_set_miss, upd_ne]; exact q2; all_goals (first | exact Or.inl (by decide) | exact Or.inr (by omega) | omega), by rw [pm_set_miss, upd_ne]; exact q3; all_goals (first | exact Or.inl (by decide) | exact Or.inr (by omega) | omega), by rw [pm_set_miss, upd_ne]; exact q4; all_goals (first | exact Or.inl (by decide) | exact Or.inr (by omega) | omega), by rw [pm_set_miss, upd_ne]; exact q5; all_goals (first | exact Or.inl (by decide) | exact Or.inr (by omega) | omega), by rw [pm_set_miss, upd_ne]; exact q6; all_goals (first | exact Or.inl (by decide) | exact Or.inr (by omega) | omega), by rw [pm_set_miss, upd_ne]; exact q7; all_goals (first | exact Or.inl (by decide) | exact Or.inr (by omega) | omega), by rw [pm_set_miss, upd_ne]; exact q8; all_goals (first | exact Or.inl (by decide) | exact Or.inr (by omega) | omega), by rw [pm_set_miss, upd_ne]; exact q9; all_goals (first | exact Or.inl (by decide) | exact Or.inr (by omega) | omega), by rw [pm_set_miss, upd_ne]; exact q10; all_goals (first | exact Or.inl (by decide) | exact Or.inr (by omega) | omega)⟩
  · rw [lr_n_upd (by omega)] at hi
    rw [upd_ne (by omega)] at hd
    simp only [Nat.reduceAdd]
    rw [pm_set_miss]
    exact h3 i d hi hd h9
    (first | exact Or.inl (by decide) | exact Or.inr (by omega) | omega)
theorem lr_put_lho {μ : pm_Mm} {g : Nat → Int32} (hR : lr_Rel μ.1 1 g) (hB : lr_B g) {j : Nat} (hj : j < lr_n g 289) (v : Int32) : lr_Rel (pm_set μ 35 j v).1 1 (upd g (298 + 11 * j) v) := by
  obtain ⟨hm1, hm3, hm2, hm4, hm5, hm6⟩ := hB
  refine ⟨by rw [pm_set_off, upd_ne]; exact hR.1; all_goals omega, lr_Rh.st hR.2.1 hm1 (fun k h1 h2 => by rw [pm_set_off]; omega) (fun j h1 h2 => by rw [upd_ne]; omega), lr_Rp.st hR.2.2.1 hm3 (fun k h1 h2 => by rw [pm_set_off]; omega) (fun j h1 h2 => by rw [upd_ne]; omega), lr_Rw.st hR.2.2.2.1 hm2 (fun k h1 h2 => by rw [pm_set_off]; omega) (fun j h1 h2 => by rw [upd_ne]; omega), lr_Rr.st hR.2.2.2.2.1 hm4 (fun k h1 h2 => by rw [pm_set_off]; omega) (fun j h1 h2 => by rw [upd_ne]; omega), lr_Ra.st hR.2.2.2.2.2.1 hm5 (fun k h1 h2 => by rw [pm_set_off]; omega) (fun j h1 h2 => by rw [upd_ne]; omega), ?_⟩
  obtain ⟨h0, h1, h2, h3⟩ := hR.2.2.2.2.2.2
  refine ⟨by simp only [Nat.reduceAdd]; rw [pm_set_miss, upd_ne]; exact h0; all_goals (first | exact Or.inl (by decide) | exact Or.inr (by omega) | omega), by simp only [Nat.reduceAdd]; rw [pm_set_miss, upd_ne]; exact h1; all_goals (first | exact Or.inl (by decide) | exact Or.inr (by omega) | omega), fun i hi => ?_, fun i d hi hd h9 => ?_⟩
  · rw [lr_n_upd (by omega)] at hi
    simp only [Nat.reduceAdd]
    obtain ⟨q0, q1, q2, q3, q4, q5, q6, q7, q8, q9, q10⟩ := h2 i hi
    by_cases e : i = j
    · subst e
      exact ⟨by rw [pm_set_miss, upd_ne]; exact q0; all_goals (first | exact Or.inl (by decide) | exact Or.inr (by omega) | omega), by rw [pm_set_miss, upd_ne]; exact q1; all_goals (first | exact Or.inl (by decide) | exact Or.inr (by omega) | omega), by rw [pm_set_miss, upd_ne]; exact q2; all_goals (first | exact Or.inl (by decide) | exact Or.inr (by omega) | omega), by rw [pm_set_miss, upd_ne]; exact q3; all_goals (first | exact Or.inl (by decide) | exact Or.inr (by omega) | omega), by rw [pm_set_miss, upd_ne]; exact q4; all_goals (first | exact Or.inl (by decide) | exact Or.inr (by omega) | omega), by rw [pm_set_miss, upd_ne]; exact q5; all_goals (first | exact Or.inl (by decide) | exact Or.inr (by omega) | omega), by rw [pm_set_miss, upd_ne]; exact q6; all_goals (first | exact Or.inl (by decide) | exact Or.inr (by omega) | omega), by rw [pm_set_miss, upd_ne]; exact q7; all_goals (first | exact Or.inl (by decide) | exact Or.inr (by omega) | omega), by rw [pm_set_hit, upd_eq], by rw [pm_set_miss, upd_ne]; exact q9; all_goals (first | exact Or.inl (by decide) | exact Or.inr (by omega) | omega), by rw [pm_set_miss, upd_ne]; exact q10; all_goals (first | exact Or.inl (by decide) | exact Or.inr (by omega) | omega)⟩
    · exact ⟨by rw [pm_set_miss, upd_ne]; exact q0; all_goals (first | exact Or.inl (by decide) | exact Or.inr (by omega) | omega), by rw [pm_set_miss, upd_ne]; exact q1; all_goals (first | exact Or.inl (by decide) | exact Or.inr (by omega) | omega), by rw [pm_set_miss, upd_ne]; exact q2; all_goals (first | exact Or.inl (by decide) | exact Or.inr (by omega) | omega), by rw [pm_set_miss, upd_ne]; exact q3; all_goals (first | exact Or.inl (by decide) | exact Or.inr (by omega) | omega), by rw [pm_set_miss, upd_ne]; exact q4; all_goals (first | exact Or.inl (by decide) | exact Or.inr (by omega) | omega), by rw [pm_set_miss, upd_ne]; exact q5; all_goals (first | exact Or.inl (by decide) | exact Or.inr (by omega) | omega), by rw [pm_set_miss, upd_ne]; exact q6; all_goals (first | exact Or.inl (by decide) | exact Or.inr (by omega) | omega), by rw [pm_set_miss, upd_ne]; exact q7; all_goals (first | exact Or.inl (by decide) | exact Or.inr (by omega) | omega), by rw [pm_set_miss, upd_ne]; exact q8; all_goals (first | exact Or.inl (by decide) | exact Or.inr (by omega) | omega), by rw [pm_set_miss, upd_ne]; exact q9; all_goals (first | exact Or.inl (by decide) | exact Or.inr (by omega) | omega), by rw [pm_set_miss, upd_ne]; exact q10; all_goals (first | exact Or.inl (by decide) | exact Or.inr (by omega) | omega)⟩
  · rw [lr_n_upd (by omega)] at hi
    rw [upd_ne (by omega)] at hd
    simp only [Nat.reduceAdd]
    rw [pm_set_miss]
    exact h3 i d hi hd h9
    (first | exact Or.inl (by decide) | exact Or.inr (by omega) | omega)
theorem lr_put_lsi {μ : pm_Mm} {g : Nat → Int32} (hR : lr_Rel μ.1 1 g) (hB : lr_B g) {j : Nat} (hj : j < lr_n g 289) (v : Int32) : lr_Rel (pm_set μ 36 j v).1 1 (upd g (299 + 11 * j) v) := by
  obtain ⟨hm1, hm3, hm2, hm4, hm5, hm6⟩ := hB
  refine ⟨by rw [pm_set_off, upd_ne]; exact hR.1; all_goals omega, lr_Rh.st hR.2.1 hm1 (fun k h1 h2 => by rw [pm_set_off]; omega) (fun j h1 h2 => by rw [upd_ne]; omega), lr_Rp.st hR.2.2.1 hm3 (fun k h1 h2 => by rw [pm_set_off]; omega) (fun j h1 h2 => by rw [upd_ne]; omega), lr_Rw.st hR.2.2.2.1 hm2 (fun k h1 h2 => by rw [pm_set_off]; omega) (fun j h1 h2 => by rw [upd_ne]; omega), lr_Rr.st hR.2.2.2.2.1 hm4 (fun k h1 h2 => by rw [pm_set_off]; omega) (fun j h1 h2 => by rw [upd_ne]; omega), lr_Ra.st hR.2.2.2.2.2.1 hm5 (fun k h1 h2 => by rw [pm_set_off]; omega) (fun j h1 h2 => by rw [upd_ne]; omega), ?_⟩
  obtain ⟨h0, h1, h2, h3⟩ := hR.2.2.2.2.2.2
  refine ⟨by simp only [Nat.reduceAdd]; rw [pm_set_miss, upd_ne]; exact h0; all_goals (first | exact Or.inl (by decide) | exact Or.inr (by omega) | omega), by simp only [Nat.reduceAdd]; rw [pm_set_miss, upd_ne]; exact h1; all_goals (first | exact Or.inl (by decide) | exact Or.inr (by omega) | omega), fun i hi => ?_, fun i d hi hd h9 => ?_⟩
  · rw [lr_n_upd (by omega)] at hi
    simp only [Nat.reduceAdd]
    obtain ⟨q0, q1, q2, q3, q4, q5, q6, q7, q8, q9, q10⟩ := h2 i hi
    by_cases e : i = j
    · subst e
      exact ⟨by rw [pm_set_miss, upd_ne]; exact q0; all_goals (first | exact Or.inl (by decide) | exact Or.inr (by omega) | omega), by rw [pm_set_miss, upd_ne]; exact q1; all_goals (first | exact Or.inl (by decide) | exact Or.inr (by omega) | omega), by rw [pm_set_miss, upd_ne]; exact q2; all_goals (first | exact Or.inl (by decide) | exact Or.inr (by omega) | omega), by rw [pm_set_miss, upd_ne]; exact q3; all_goals (first | exact Or.inl (by decide) | exact Or.inr (by omega) | omega), by rw [pm_set_miss, upd_ne]; exact q4; all_goals (first | exact Or.inl (by decide) | exact Or.inr (by omega) | omega), by rw [pm_set_miss, upd_ne]; exact q5; all_goals (first | exact Or.inl (by decide) | exact Or.inr (by omega) | omega), by rw [pm_set_miss, upd_ne]; exact q6; all_goals (first | exact Or.inl (by decide) | exact Or.inr (by omega) | omega), by rw [pm_set_miss, upd_ne]; exact q7; all_goals (first | exact Or.inl (by decide) | exact Or.inr (by omega) | omega), by rw [pm_set_miss, upd_ne]; exact q8; all_goals (first | exact Or.inl (by decide) | exact Or.inr (by omega) | omega), by rw [pm_set_hit, upd_eq], by rw [pm_set_miss, upd_ne]; exact q10; all_goals (first | exact Or.inl (by decide) | exact Or.inr (by omega) | omega)⟩
    · exact ⟨by rw [pm_set_miss, upd_ne]; exact q0; all_goals (first | exact Or.inl (by decide) | exact Or.inr (by omega) | omega), by rw [pm_set_miss, upd_ne]; exact q1; all_goals (first | exact Or.inl (by decide) | exact Or.inr (by omega) | omega), by rw [pm_set_miss, upd_ne]; exact q2; all_goals (first | exact Or.inl (by decide) | exact Or.inr (by omega) | omega), by rw [pm_set_miss, upd_ne]; exact q3; all_goals (first | exact Or.inl (by decide) | exact Or.inr (by omega) | omega), by rw [pm_set_miss, upd_ne]; exact q4; all_goals (first | exact Or.inl (by decide) | exact Or.inr (by omega) | omega), by rw [pm_set_miss, upd_ne]; exact q5; all_goals (first | exact Or.inl (by decide) | exact Or.inr (by omega) | omega), by rw [pm_set_miss, upd_ne]; exact q6; all_goals (first | exact Or.inl (by decide) | exact Or.inr (by omega) | omega), by rw [pm_set_miss, upd_ne]; exact q7; all_goals (first | exact Or.inl (by decide) | exact Or.inr (by omega) | omega), by rw [pm_set_miss, upd_ne]; exact q8; all_goals (first | exact Or.inl (by decide) | exact Or.inr (by omega) | omega), by rw [pm_set_miss, upd_ne]; exact q9; all_goals (first | exact Or.inl (by decide) | exact Or.inr (by omega) | omega), by rw [pm_set_miss, upd_ne]; exact q10; all_goals (first | exact Or.inl (by decide) | exact Or.inr (by omega) | omega)⟩
  · rw [lr_n_upd (by omega)] at hi
    rw [upd_ne (by omega)] at hd
    simp only [Nat.reduceAdd]
    rw [pm_set_miss]
    exact h3 i d hi hd h9
    (first | exact Or.inl (by decide) | exact Or.inr (by omega) | omega)
