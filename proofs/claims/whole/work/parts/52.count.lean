/-! counting, and the order of the letters of a day -/
theorem nJ_lt {a b : Nat} (ha : a < 2 ^ 31) (hb : b < 2 ^ 31) : nI a < nI b ↔ a < b :=
  ⟨fun h => by rcases Nat.lt_or_ge a b with q | q; exact q; exact absurd h (nI_nlt q ha), fun h => nI_lt h hb⟩
theorem nJ_le {a b : Nat} (ha : a < 2 ^ 31) (hb : b < 2 ^ 31) : nI a ≤ nI b ↔ a ≤ b :=
  ⟨fun h => by rcases Nat.lt_or_ge b a with q | q; exact absurd h (nI_ge q ha); exact q, fun h => nI_le h hb⟩
def lr_cnt (p : Nat → Bool) : Nat → Nat
  | 0 => 0
  | n + 1 => lr_cnt p n + (if p n = true then 1 else 0)
theorem lr_cnt_le (p : Nat → Bool) : ∀ n, lr_cnt p n ≤ n := by
  intro n
  induction n with
  | zero => exact Nat.le_refl _
  | succ n ih => simp only [lr_cnt]; split <;> omega
theorem lr_cnt_cg {p q : Nat → Bool} : ∀ n, (∀ i, i < n → p i = q i) → lr_cnt p n = lr_cnt q n := by
  intro n
  induction n with
  | zero => intro _; rfl
  | succ n ih => intro h; simp only [lr_cnt]; rw [h n (by omega), ih (fun i hi => h i (by omega))]
theorem lr_cnt_mono {p q : Nat → Bool} : ∀ n, (∀ i, i < n → p i = true → q i = true) → lr_cnt p n ≤ lr_cnt q n := by
  intro n
  induction n with
  | zero => intro _; exact Nat.le_refl _
  | succ n ih =>
    intro h; simp only [lr_cnt]
    have h1 := ih (fun i hi => h i (by omega))
    by_cases hp : p n = true
    · rw [if_pos hp, if_pos (h n (by omega) hp)]; omega
    · rw [if_neg hp]; omega
theorem lr_cnt_lt {p q : Nat → Bool} : ∀ n, (∀ i, i < n → p i = true → q i = true) → (∃ x, x < n ∧ q x = true ∧ ¬ p x = true) → lr_cnt p n < lr_cnt q n := by
  intro n
  induction n with
  | zero => rintro _ ⟨x, hx, _⟩; omega
  | succ n ih =>
    rintro h ⟨x, hx, hq, hp⟩; simp only [lr_cnt]
    by_cases e : x = n
    · subst e; rw [if_pos hq, if_neg hp]
      have := lr_cnt_mono x (fun i hi => h i (by omega)); omega
    · have h1 := ih (fun i hi => h i (by omega)) ⟨x, by omega, hq, hp⟩
      by_cases hpn : p n = true
      · rw [if_pos hpn, if_pos (h n (by omega) hpn)]; omega
      · rw [if_neg hpn]; omega
theorem lr_cnt_dj {p q : Nat → Bool} : ∀ n, (∀ i, i < n → p i = true → q i = false) → lr_cnt p n + lr_cnt q n ≤ n := by
  intro n
  induction n with
  | zero => intro _; exact Nat.le_refl _
  | succ n ih =>
    intro h; simp only [lr_cnt]
    have h1 := ih (fun i hi => h i (by omega))
    by_cases hp : p n = true
    · rw [if_pos hp, h n (by omega) hp, if_neg (by decide)]; omega
    · rw [if_neg hp]; split <;> omega
theorem lr_sum_cnt (p : Nat → Bool) : ∀ n, lr_sum (fun i => lr_b (p i)) n = nI (lr_cnt p n) := by
  intro n
  induction n with
  | zero => rfl
  | succ n ih =>
    simp only [lr_sum, lr_cnt]
    rw [ih]
    cases p n
    · rw [if_neg (by decide), show lr_b false = 0 from rfl, Int32.add_zero, Nat.add_zero]
    · rw [if_pos rfl, show lr_b true = 1 from rfl, nI_1]
/-- no two houses alike -/
def lr_H (g : Nat → Int32) : Prop := ∀ i j, i < lr_n g 2 → j < lr_n g 2 → g (3 + 2 * i) = g (3 + 2 * j) → g (4 + 2 * i) = g (4 + 2 * j) → i = j
/-- how many stops are ahead, as a natural number -/
def lr_spn (g : Nat → Int32) (h : Nat) : Nat := lr_cnt (fun i => decide (lr_sv g i = lr_sv g h) && lr_cf g (lr_sv g h) (g (4 + 2 * i)) (g (4 + 2 * h))) (lr_n g 2)
theorem lr_sp_n (g : Nat → Int32) (h : Nat) : lr_sp g h = nI (lr_spn g h) := lr_sum_cnt _ _
theorem lr_spn_le (g : Nat → Int32) (h : Nat) : lr_spn g h ≤ lr_n g 2 := lr_cnt_le _ _
theorem lr_i32_tr (a b : Int32) : a < b ∨ b < a ∨ a = b := by
  rcases Int32.lt_or_eq_of_le (a := a) (b := b) |> fun f => (Classical.em (a ≤ b)).imp f id with (h | h) | h
  · exact Or.inl h
  · exact Or.inr (Or.inr h)
  · exact Or.inr (Or.inl (Int32.not_le.mp h))
theorem lr_cf_tr (g : Nat → Int32) (w a b : Int32) (h : a ≠ b) : lr_cf g w a b = true ∨ lr_cf g w b a = true := by
  unfold lr_cf
  rcases lr_i32_tr a b with q | q | q
  · split
    · exact Or.inl (decide_eq_true q)
    · exact Or.inr (decide_eq_true q)
  · split
    · exact Or.inr (decide_eq_true q)
    · exact Or.inl (decide_eq_true q)
  · exact absurd q h
theorem lr_cf_trans (g : Nat → Int32) (w a b c : Int32) (h1 : lr_cf g w a b = true) (h2 : lr_cf g w b c = true) : lr_cf g w a c = true := by
  unfold lr_cf at *
  split at h1
  · rename_i q
    rw [if_pos q] at h2 ⊢
    exact decide_eq_true (Int32.lt_trans (of_decide_eq_true h1) (of_decide_eq_true h2))
  · rename_i q
    rw [if_neg q] at h2 ⊢
    exact decide_eq_true (Int32.lt_trans (of_decide_eq_true h2) (of_decide_eq_true h1))
theorem lr_cf_irr (g : Nat → Int32) (w a : Int32) : lr_cf g w a a = false := by
  unfold lr_cf
  split <;> exact decide_eq_false (fun h => Int32.lt_irrefl h)
theorem lr_sv_st {g : Nat → Int32} (hw : lr_n g 116 ≤ 10) {h u : Nat} (e : lr_sv g h = nI u) (hu : u < 2 ^ 31) : g (117 + 5 * u) = g (3 + 2 * h) := by
  unfold lr_sv lr_srv at e
  rcases lr_fst_ok (lr_cs g (g (3 + 2 * h)) (g (4 + 2 * h))) (lr_n g 116) 0 with q | ⟨i, q, q1, q2, q3⟩
  · rw [q] at e; exact absurd e.symm (lr_ne1 hu)
  · rw [q] at e
    rw [(nI_eq (by omega) hu).mp e] at q3
    unfold lr_cs at q3
    exact of_decide_eq_true ((Bool.and_eq_true _ _).mp q3).1
/-- of two houses on one walk one is ahead -/
theorem lr_spn_lt {g : Nat → Int32} {x y : Nat} (hx : x < lr_n g 2) (e : lr_sv g x = lr_sv g y) (hc : lr_cf g (lr_sv g y) (g (4 + 2 * x)) (g (4 + 2 * y)) = true) : lr_spn g x < lr_spn g y := by
  unfold lr_spn
  refine lr_cnt_lt _ (fun i hi h => ?_) ⟨x, hx, ?_, ?_⟩
  · rw [Bool.and_eq_true] at h ⊢
    rw [e] at h
    exact ⟨h.1, lr_cf_trans _ _ _ _ _ h.2 hc⟩
  · rw [e, decide_eq_true rfl, Bool.true_and]; exact hc
  · rw [lr_cf_irr, Bool.and_false]; exact Bool.false_ne_true
theorem lr_spn_ne {g : Nat → Int32} (hw : lr_n g 116 ≤ 10) (hH : lr_H g) {x y u : Nat} (hx : x < lr_n g 2) (hy : y < lr_n g 2) (hu : u < 2 ^ 31) (ex : lr_sv g x = nI u) (ey : lr_sv g y = nI u) (hxy : x ≠ y) : lr_spn g x ≠ lr_spn g y := by
  have hn : g (4 + 2 * x) ≠ g (4 + 2 * y) := fun q => hxy (hH x y hx hy ((lr_sv_st hw ex hu).symm.trans (lr_sv_st hw ey hu)) q)
  rcases lr_cf_tr g (lr_sv g y) _ _ hn with q | q
  · exact Nat.ne_of_lt (lr_spn_lt hx (ex.trans ey.symm) q)
  · rw [ey, ← ex] at q
    exact Nat.ne_of_gt (lr_spn_lt hy (ey.trans ex.symm) q)
