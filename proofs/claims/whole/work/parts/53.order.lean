/-! the letters of a day in their order -/
def lr_end (g : Nat → Int32) (l : Nat) : Nat := (lr_we g (lr_n g (290 + 11 * l)) (g 0)).toNatClampNeg
/-- walk, stop, falling weight, letter: one number -/
def lr_ky (g : Nat → Int32) (l : Nat) : Nat := ((((lr_sv g (lr_end g l)).toNatClampNeg * 16 + lr_spn g (lr_end g l)) * 10 + 9) - lr_n g (291 + 11 * l)) * 30 + l
/-- handed over today -/
def lr_due (g : Nat → Int32) (l : Nat) : Bool := decide (g (294 + 11 * l) = 0) && decide (lr_oc g l (g 0) = 5)
def lr_ins (K : Nat → Nat) (l : Nat) : List Nat → List Nat
  | [] => [l]
  | s :: S => if K l < K s then l :: s :: S else s :: lr_ins K l S
def lr_ord (g : Nat → Int32) : Nat → List Nat
  | 0 => []
  | k + 1 => if lr_due g k = true then lr_ins (lr_ky g) k (lr_ord g k) else lr_ord g k
theorem lr_ins_mem {K : Nat → Nat} {l x : Nat} : ∀ {S : List Nat}, x ∈ lr_ins K l S ↔ x = l ∨ x ∈ S := by
  intro S
  induction S with
  | nil => simp [lr_ins]
  | cons s S ih =>
    simp only [lr_ins]
    split
    · simp [List.mem_cons]
    · rw [List.mem_cons, ih, List.mem_cons]
      constructor
      · rintro (h | h | h)
        · exact Or.inr (Or.inl h)
        · exact Or.inl h
        · exact Or.inr (Or.inr h)
      · rintro (h | h | h)
        · exact Or.inr (Or.inl h)
        · exact Or.inl h
        · exact Or.inr (Or.inr h)
theorem lr_ins_len {K : Nat → Nat} {l : Nat} : ∀ {S : List Nat}, (lr_ins K l S).length = S.length + 1 := by
  intro S
  induction S with
  | nil => rfl
  | cons s S ih =>
    simp only [lr_ins]
    split
    · rfl
    · rw [List.length_cons, ih, List.length_cons]
theorem lr_ins_srt {K : Nat → Nat} {l : Nat} : ∀ {S : List Nat}, S.Pairwise (fun a b => K a < K b) → (∀ s, s ∈ S → K s ≠ K l) → (lr_ins K l S).Pairwise (fun a b => K a < K b) := by
  intro S
  induction S with
  | nil => intro _ _; simp [lr_ins]
  | cons s S ih =>
    intro h hn
    rw [List.pairwise_cons] at h
    simp only [lr_ins]
    split
    · rename_i q
      refine List.pairwise_cons.mpr ⟨fun t ht => ?_, List.pairwise_cons.mpr h⟩
      rcases List.mem_cons.mp ht with e | e
      · rw [e]; exact q
      · exact Nat.lt_trans q (h.1 t e)
    · rename_i q
      refine List.pairwise_cons.mpr ⟨fun t ht => ?_, ih h.2 (fun t ht => hn t (List.mem_cons_of_mem _ ht))⟩
      rcases lr_ins_mem.mp ht with e | e
      · rw [e]; have := hn s (List.mem_cons_self ..); omega
      · exact h.1 t e
theorem lr_ord_mem {g : Nat → Int32} {l : Nat} : ∀ {k : Nat}, l ∈ lr_ord g k ↔ l < k ∧ lr_due g l = true := by
  intro k
  induction k with
  | zero => simp [lr_ord]
  | succ k ih =>
    simp only [lr_ord]
    split
    · rename_i q
      rw [lr_ins_mem, ih]
      constructor
      · rintro (h | h)
        · rw [h]; exact ⟨by omega, q⟩
        · exact ⟨by omega, h.2⟩
      · rintro ⟨h1, h2⟩
        by_cases e : l = k
        · exact Or.inl e
        · exact Or.inr ⟨by omega, h2⟩
    · rename_i q
      rw [ih]
      constructor
      · rintro ⟨h1, h2⟩; exact ⟨by omega, h2⟩
      · rintro ⟨h1, h2⟩
        by_cases e : l = k
        · rw [e] at h2; exact absurd h2 q
        · exact ⟨by omega, h2⟩
theorem lr_ky_mod {g : Nat → Int32} {l : Nat} (hl : l < 30) : lr_ky g l % 30 = l := by unfold lr_ky; omega
theorem lr_ky_ne {g : Nat → Int32} {a b : Nat} (ha : a < 30) (hb : b < 30) (h : a ≠ b) : lr_ky g a ≠ lr_ky g b := fun e => h (by rw [← lr_ky_mod (g := g) ha, e, lr_ky_mod hb])
theorem lr_ord_srt {g : Nat → Int32} : ∀ {k : Nat}, k ≤ 30 → (lr_ord g k).Pairwise (fun a b => lr_ky g a < lr_ky g b) := by
  intro k
  induction k with
  | zero => intro _; exact List.Pairwise.nil
  | succ k ih =>
    intro hk
    simp only [lr_ord]
    split
    · exact lr_ins_srt (ih (by omega)) (fun s hs => lr_ky_ne (by have := (lr_ord_mem.mp hs).1; omega) (by omega) (by have := (lr_ord_mem.mp hs).1; omega))
    · exact ih (by omega)
theorem lr_ord_len {g : Nat → Int32} : ∀ {k : Nat}, (lr_ord g k).length = lr_cnt (lr_due g) k := by
  intro k
  induction k with
  | zero => rfl
  | succ k ih =>
    simp only [lr_ord, lr_cnt]
    split
    · rw [lr_ins_len, ih]
    · rw [ih]; rfl
theorem lr_spn_lt2 {g : Nat → Int32} {x : Nat} (hx : x < lr_n g 2) : lr_spn g x < lr_n g 2 := by
  unfold lr_spn
  refine Nat.lt_of_lt_of_le (lr_cnt_lt (q := fun _ => true) _ (fun _ _ _ => rfl) ⟨x, hx, rfl, ?_⟩) (lr_cnt_le _ _)
  rw [lr_cf_irr, Bool.and_false]; exact Bool.false_ne_true
/-- the order by numbers is the order of the letters -/
theorem lr_ah_ky {g : Nat → Int32} (hG : lr_G g) (hH : lr_H g) {a b x y u v1 wa wb : Nat} (ha : a < 30) (hb : b < 30) (hx : x < lr_n g 2) (hy : y < lr_n g 2) (hu : u < lr_n g 116) (hv : v1 < lr_n g 116) (ex : lr_sv g x = nI u) (ey : lr_sv g y = nI v1) (ea : g (291 + 11 * a) = nI wa) (eb : g (291 + 11 * b) = nI wb) (wa9 : wa ≤ 9) (wb9 : wb ≤ 9)
    (hk : (((u * 16 + lr_spn g x) * 10 + 9) - wa) * 30 + a < (((v1 * 16 + lr_spn g y) * 10 + 9) - wb) * 30 + b) : lr_ahx g a b x y = true ∧ lr_ahx g b a y x = false := by
  have m1 := lr_mh hG; have m3 := lr_mw hG
  have sx := lr_spn_lt2 hx; have sy := lr_spn_lt2 hy
  unfold lr_ahx
  rw [ex, ey, ea, eb, lr_sp_n, lr_sp_n]
  by_cases huv : u = v1
  · subst huv
    rw [if_pos rfl, if_pos rfl]
    by_cases hxy : x = y
    · subst hxy
      rw [if_pos rfl, if_pos rfl]
      by_cases hw : wa = wb
      · subst hw
        rw [if_pos rfl, if_pos rfl]
        exact ⟨decide_eq_true ((nJ_lt (by omega) (by omega)).mpr (by omega)), decide_eq_false (fun q => by have := (nJ_lt (by omega) (by omega)).mp q; omega)⟩
      · rw [if_neg (fun q => hw ((nI_eq (by omega) (by omega)).mp q)), if_neg (fun q => hw ((nI_eq (by omega) (by omega)).mp q).symm)]
        exact ⟨decide_eq_true ((nJ_lt (by omega) (by omega)).mpr (by omega)), decide_eq_false (fun q => by have := (nJ_lt (by omega) (by omega)).mp q; omega)⟩
    · have hne := lr_spn_ne m3 hH hx hy (by omega) ex ey hxy
      rw [if_neg (fun q => hxy ((nI_eq (by omega) (by omega)).mp q)), if_neg (fun q => hxy ((nI_eq (by omega) (by omega)).mp q).symm)]
      exact ⟨decide_eq_true ((nJ_lt (by omega) (by omega)).mpr (by omega)), decide_eq_false (fun q => by have := (nJ_lt (by omega) (by omega)).mp q; omega)⟩
  · rw [if_neg (fun q => huv ((nI_eq (by omega) (by omega)).mp q)), if_neg (fun q => huv ((nI_eq (by omega) (by omega)).mp q).symm)]
    exact ⟨decide_eq_true ((nJ_lt (by omega) (by omega)).mpr (by omega)), decide_eq_false (fun q => by have := (nJ_lt (by omega) (by omega)).mp q; omega)⟩
