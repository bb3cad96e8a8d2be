/-! a day: the rows stay good -/
def lr_hoF (g : Nat → Int32) (l : Nat) : Int32 := lr_we g (lr_n g (290 + 11 * l)) (g 0)
def lr_siF (g : Nat → Int32) (l : Nat) : Int32 := if g (292 + 11 * l) = 0 then -1 else lr_sg g (lr_n g (290 + 11 * l)) (g 0)
theorem lr_gret_4 {g : Nat → Int32} {l : Nat} {a b : Int32} : lr_gret g l a b (294 + 11 * l) = 2 := by unfold lr_gret; rw [upd_ne (by omega), upd_ne (by omega), upd_eq]
theorem lr_gdl0_4 {g : Nat → Int32} {l : Nat} {a b c : Int32} : lr_gdl0 g l a b c (294 + 11 * l) = 1 := by unfold lr_gdl0; rw [upd_ne (by omega), upd_ne (by omega), upd_ne (by omega), upd_eq]
theorem lr_gdl0_8 {g : Nat → Int32} {l : Nat} {a b c : Int32} : lr_gdl0 g l a b c (298 + 11 * l) = b := by unfold lr_gdl0; rw [upd_ne (by omega), upd_eq]
theorem lr_gdl0_1 {g : Nat → Int32} {l : Nat} {a b c : Int32} : lr_gdl0 g l a b c (291 + 11 * l) = g (291 + 11 * l) := by unfold lr_gdl0; rw [upd_ne (by omega), upd_ne (by omega), upd_ne (by omega), upd_ne (by omega)]
theorem lr_gret_300 {g : Nat → Int32} {l : Nat} {a b : Int32} : lr_gret g l a b (300 + 11 * l) = g (300 + 11 * l) := by unfold lr_gret; rw [upd_ne (by omega), upd_ne (by omega), upd_ne (by omega)]
theorem lr_gret_297 {g : Nat → Int32} {l : Nat} {a b : Int32} : lr_gret g l a b (297 + 11 * l) = g (297 + 11 * l) := by unfold lr_gret; rw [upd_ne (by omega), upd_ne (by omega), upd_ne (by omega)]
theorem lr_look_300 {g : Nat → Int32} {l : Nat} : lr_look g l (300 + 11 * l) = g (300 + 11 * l) := by
  unfold lr_look
  repeat' split
  all_goals first
    | rfl
    | (rw [lr_gret_300]; done)
    | (rw [lr_gdl0_o (by omega)]; done)
    | (rw [lr_gret_300, upd_ne (by omega)]; done)
    | (rw [upd_ne (by omega)]; done)
theorem lr_one_300 {g : Nat → Int32} {l : Nat} : lr_one g l (300 + 11 * l) = g (300 + 11 * l) := by
  have h : lr_st g l (300 + 11 * l) = g (300 + 11 * l) := by
    unfold lr_st; split
    · exact lr_look_300
    · rfl
  unfold lr_one lr_rt; split
  · rw [lr_gret_300, h]
  · exact h
theorem lr_one_no {g : Nat → Int32} {l : Nat} (h : ¬ g (294 + 11 * l) = 0) : lr_one g l = g := by
  have e : lr_st g l = g := by unfold lr_st; rw [if_neg h]
  unfold lr_one lr_rt; rw [e, if_neg (fun q => h q.1)]
theorem lr_due_no {g : Nat → Int32} {l : Nat} (h : ¬ g (294 + 11 * l) = 0) : lr_due g l = false := by unfold lr_due; rw [decide_eq_false h, Bool.false_and]
theorem lr_due_wt {g : Nat → Int32} {l : Nat} (h : lr_due g l = true) : g (294 + 11 * l) = 0 := of_decide_eq_true ((Bool.and_eq_true _ _).mp h).1
theorem lr_due_oc {g : Nat → Int32} {l : Nat} (h : lr_due g l = true) : lr_oc g l (g 0) = 5 := of_decide_eq_true ((Bool.and_eq_true _ _).mp h).2
theorem lr_one_due {g : Nat → Int32} {l : Nat} (h : lr_due g l = true) : lr_one g l = lr_gdl0 g l (g 0) (lr_hoF g l) (lr_siF g l) := by
  have e : lr_st g l = lr_gdl0 g l (g 0) (lr_hoF g l) (lr_siF g l) := by
    unfold lr_st lr_look lr_hoF lr_siF
    rw [if_pos (lr_due_wt h), lr_due_oc h, if_neg (by decide), if_neg (by decide), if_neg (by decide), if_pos rfl]
  unfold lr_one lr_rt
  rw [e, lr_gdl0_4, if_neg (fun q => absurd q.1 (by decide))]
theorem lr_one_nd {g : Nat → Int32} {l : Nat} (hw : g (294 + 11 * l) = 0) (ht : ∃ t, g (297 + 11 * l) = nI t ∧ t ≤ 2) (h : lr_due g l = false) : lr_one g l (294 + 11 * l) = 2 ∨ (lr_one g l (294 + 11 * l) = 0 ∧ ∃ t, lr_one g l (297 + 11 * l) = nI t ∧ t ≤ 2) := by
  have h5 : ¬ lr_oc g l (g 0) = 5 := by
    intro e; unfold lr_due at h; rw [decide_eq_true hw, decide_eq_true e] at h; exact absurd h (by decide)
  have q : lr_st g l (294 + 11 * l) = 2 ∨ (lr_st g l (294 + 11 * l) = 0 ∧ ∃ t, lr_st g l (297 + 11 * l) = nI t ∧ t ≤ 2) := by
    unfold lr_st; rw [if_pos hw]
    unfold lr_look
    split
    · exact Or.inr ⟨hw, ht⟩
    split
    · exact Or.inl lr_gret_4
    split
    · exact Or.inl lr_gret_4
    split
    · exact Or.inl lr_gret_4
    · rename_i h3
      obtain ⟨t, et, ht2⟩ := ht
      refine Or.inr ⟨by rw [upd_ne (by omega)]; exact hw, t + 1, by rw [upd_eq, et, nI_1], ?_⟩
      rw [et, nI_1] at h3
      have : t + 1 ≠ 3 := fun e => h3 (by rw [e]; rfl)
      omega
  unfold lr_one lr_rt
  split
  · exact Or.inl lr_gret_4
  · exact q
/-- the numbers of the deliveries, whatever the states say -/
def lr_N (g : Nat → Int32) : Prop := (∀ i d, i < lr_n g 289 → g (300 + 11 * i) = nI d → d < 30 → d < lr_n g 1) ∧ (∀ d, d < lr_n g 1 → ∃ i, i < lr_n g 289 ∧ g (300 + 11 * i) = nI d) ∧ (∀ i j, i < lr_n g 289 → j < lr_n g 289 → ¬ g (300 + 11 * i) = -1 → g (300 + 11 * i) = g (300 + 11 * j) → i = j) ∧ lr_n g 1 = lr_cnt (fun i => !(decide (g (300 + 11 * i) = -1))) (lr_n g 289)
theorem lr_N.le {g : Nat → Int32} (h : lr_N g) : lr_n g 1 ≤ lr_n g 289 := by rw [h.2.2.2]; exact lr_cnt_le _ _
theorem lr_C.N {g : Nat → Int32} (hG : lr_G g) (h : lr_C g) : lr_N g := by
  obtain ⟨h1, h2, h3, h4, h5, h6⟩ := h
  have md := lr_mD hG
  refine ⟨h3, h4, fun i j hi hj hn e => h5 i j hi hj ((h2 i hi).mpr hn) e, ?_⟩
  rw [lr_sum_cnt, lr_gD hG] at h6
  have q := (nI_eq (by omega) (by have := lr_cnt_le (fun i => decide (g (294 + 11 * i) = 1)) (lr_n g 289); have := lr_ml hG; omega)).mp h6
  rw [q]
  refine lr_cnt_cg _ (fun i hi => ?_)
  by_cases e : g (294 + 11 * i) = 1
  · rw [decide_eq_true e, decide_eq_false ((h2 i hi).mp e)]; rfl
  · rw [decide_eq_false e, decide_eq_true (Classical.byContradiction fun q => e ((h2 i hi).mpr q))]; rfl
theorem lr_N.C {g : Nat → Int32} (hG : lr_G g) (h : lr_N g) (hs : ∀ i, i < lr_n g 289 → (g (294 + 11 * i) = 1 ↔ ¬ g (300 + 11 * i) = -1)) : lr_C g := by
  refine ⟨h.le, hs, h.1, h.2.1, fun i j hi hj hn e => h.2.2.1 i j hi hj ((hs i hi).mp hn) e, ?_⟩
  rw [lr_sum_cnt, lr_gD hG, h.2.2.2]
  congr 1
  refine lr_cnt_cg _ (fun i hi => ?_)
  by_cases e : g (294 + 11 * i) = 1
  · rw [decide_eq_true e, decide_eq_false ((hs i hi).mp e)]; rfl
  · rw [decide_eq_false e, decide_eq_true (Classical.byContradiction fun q => e ((hs i hi).mpr q))]; rfl
theorem lr_N.cg {g g2 : Nat → Int32} (h : lr_N g) (h1 : g2 1 = g 1) (h2 : g2 289 = g 289) (h3 : ∀ i, i < lr_n g 289 → g2 (300 + 11 * i) = g (300 + 11 * i)) : lr_N g2 := by
  have e1 : lr_n g2 1 = lr_n g 1 := by unfold lr_n; rw [h1]
  have e2 : lr_n g2 289 = lr_n g 289 := by unfold lr_n; rw [h2]
  unfold lr_N; rw [e1, e2]
  refine ⟨fun i d hi => by rw [h3 i hi]; exact h.1 i d hi, fun d hd => ?_, fun i j hi hj => by rw [h3 i hi, h3 j hj]; exact h.2.2.1 i j hi hj, ?_⟩
  · obtain ⟨i, hi, hi2⟩ := h.2.1 d hd
    exact ⟨i, hi, by rw [h3 i hi]; exact hi2⟩
  · rw [h.2.2.2]; exact lr_cnt_cg _ (fun i hi => by rw [h3 i hi])
theorem lr_cnt_one {p q : Nat → Bool} {s : Nat} : ∀ n, s < n → p s = false → q s = true → (∀ i, i < n → i ≠ s → q i = p i) → lr_cnt q n = lr_cnt p n + 1 := by
  intro n
  induction n with
  | zero => intro h; omega
  | succ n ih =>
    intro hs hp hq h
    simp only [lr_cnt]
    by_cases e : s = n
    · subst e
      rw [hp, hq, if_pos rfl, if_neg (by decide), lr_cnt_cg s (fun i hi => h i (by omega) (by omega))]
    · rw [ih (by omega) hp hq (fun i hi => h i (by omega)), h n (by omega) (fun q => e q.symm)]; omega
theorem lr_N.num1 {g : Nat → Int32} (hG : lr_G g) (h : lr_N g) {s : Nat} (hs : s < lr_n g 289) (hn : g (300 + 11 * s) = -1) : lr_N (lr_num1 g s) ∧ lr_n g 1 < lr_n g 289 := by
  have md := lr_mD hG; have m6 := lr_ml hG
  have e2 : lr_n (lr_num1 g s) 289 = lr_n g 289 := by unfold lr_n; rw [lr_num1_o (by omega) (by omega)]
  have e1 := lr_num1_1 hG (s := s)
  have es : lr_num1 g s (300 + 11 * s) = nI (lr_n g 1) := by unfold lr_num1; rw [upd_ne (by omega), upd_eq]; exact lr_gD hG
  have ec : lr_cnt (fun i => !(decide (lr_num1 g s (300 + 11 * i) = -1))) (lr_n g 289) = lr_cnt (fun i => !(decide (g (300 + 11 * i) = -1))) (lr_n g 289) + 1 := by
    refine lr_cnt_one _ hs ?_ ?_ (fun i hi hi2 => by rw [lr_num1_o (by omega) (by omega)])
    · rw [decide_eq_true hn]; rfl
    · rw [es, decide_eq_false (lr_ne1 (by omega))]; rfl
  refine ⟨?_, ?_⟩
  · unfold lr_N; rw [e1, e2]
    refine ⟨fun i d hi hd h3 => ?_, fun d hd => ?_, fun i j hi hj hn2 e => ?_, by rw [ec, h.2.2.2]⟩
    · by_cases e : i = s
      · rw [e, es] at hd; have := (nI_eq (by omega) (by omega)).mp hd; omega
      · rw [lr_num1_o (by omega) (by omega)] at hd; have := h.1 i d hi hd h3; omega
    · by_cases e : d = lr_n g 1
      · exact ⟨s, hs, by rw [es, e]⟩
      · obtain ⟨i, hi, hi2⟩ := h.2.1 d (by omega)
        have : i ≠ s := fun q => by rw [q, hn] at hi2; exact absurd hi2.symm (lr_ne1 (by omega))
        exact ⟨i, hi, by rw [lr_num1_o (by omega) (by omega)]; exact hi2⟩
    · have key : ∀ i, i < lr_n g 289 → i ≠ s → ¬ g (300 + 11 * i) = nI (lr_n g 1) := fun i hi _ q => by have := h.1 i _ hi q; have h9 := h.2.2.2; have hc := lr_cnt_lt (p := fun i => !(decide (g (300 + 11 * i) = -1))) (q := fun _ => true) (lr_n g 289) (fun _ _ _ => rfl) ⟨s, hs, rfl, by rw [decide_eq_true hn]; decide⟩; have := lr_cnt_le (fun _ => true) (lr_n g 289); omega
      by_cases ei : i = s
      · by_cases ej : j = s
        · rw [ei, ej]
        · rw [ei, es, lr_num1_o (by omega) (by omega)] at e; exact absurd e.symm (key j hj ej)
      · by_cases ej : j = s
        · rw [ej, es, lr_num1_o (by omega) (by omega)] at e; exact absurd e (key i hi ei)
        · rw [lr_num1_o (by omega) (by omega), lr_num1_o (by omega) (by omega)] at e
          rw [lr_num1_o (by omega) (by omega)] at hn2
          exact h.2.2.1 i j hi hj hn2 e
  · have hc := lr_cnt_lt (p := fun i => !(decide (g (300 + 11 * i) = -1))) (q := fun _ => true) (lr_n g 289) (fun _ _ _ => rfl) ⟨s, hs, rfl, by rw [decide_eq_true hn]; decide⟩
    have := lr_cnt_le (fun _ => true) (lr_n g 289)
    rw [h.2.2.2]; omega
