/-! rounds of redirects: both searches find the same -/
theorem lr_pigeon : ∀ (N : Nat) (b : Nat → Nat), (∀ j, j ≤ N → b j < N) → ∃ i j, i < j ∧ j ≤ N ∧ b i = b j := by
  intro N
  induction N with
  | zero => intro b h; exact absurd (h 0 (Nat.le_refl _)) (Nat.not_lt_zero _)
  | succ N ih =>
    intro b h
    by_cases e : ∃ i, i < N + 1 ∧ b i = b (N + 1)
    · obtain ⟨i, hi, he⟩ := e; exact ⟨i, N + 1, hi, Nat.le_refl _, he⟩
    · have hne : ∀ i, i ≤ N → b i ≠ b (N + 1) := fun i hi q => e ⟨i, by omega, q⟩
      have hl := h (N + 1) (Nat.le_refl _)
      obtain ⟨i, j, hij, hj, he⟩ := ih (fun j => if b j < b (N + 1) then b j else b j - 1) (fun j hj => by
        have h1 := h j (by omega); have h2 := hne j hj
        show (if b j < b (N + 1) then b j else b j - 1) < N
        split <;> omega)
      refine ⟨i, j, hij, by omega, ?_⟩
      have h1 := hne i (by omega); have h2 := hne j hj
      have he2 : (if b i < b (N + 1) then b i else b i - 1) = (if b j < b (N + 1) then b j else b j - 1) := he
      split at he2 <;> split at he2 <;> omega
/-- n steps of f -/
def lr_ite (f : Nat → Option Nat) : Nat → Option Nat → Option Nat
  | 0, x => x
  | n + 1, x => lr_ite f n (x.bind f)
theorem lr_ite_none (f : Nat → Option Nat) : ∀ n, lr_ite f n none = none := by
  intro n
  induction n with
  | zero => rfl
  | succ n ih => simp only [lr_ite, Option.bind_none]; exact ih
theorem lr_ite_add (f : Nat → Option Nat) : ∀ a b x, lr_ite f (a + b) x = lr_ite f b (lr_ite f a x) := by
  intro a
  induction a with
  | zero => intro b x; rw [Nat.zero_add]; rfl
  | succ a ih => intro b x; rw [Nat.succ_add]; simp only [lr_ite]; exact ih b _
theorem lr_ite_cyc {f : Nat → Option Nat} {s m : Nat} (h : lr_ite f m (some s) = some s) : ∀ k, lr_ite f (m * k) (some s) = some s := by
  intro k
  induction k with
  | zero => rfl
  | succ k ih => rw [Nat.mul_succ, lr_ite_add, ih]; exact h
/-- who never ends goes round, and who goes round never ends -/
theorem lr_cyc_iff {f : Nat → Option Nat} {N : Nat} (hN : N ≤ 16) (hf : ∀ h t, f h = some t → t < N) : (∃ h, h < N ∧ lr_ite f 17 (some h) ≠ none) ↔ (∃ s m, s < N ∧ 1 ≤ m ∧ m ≤ 16 ∧ lr_ite f m (some s) = some s) := by
  constructor
  · rintro ⟨h, hh, h17⟩
    have hs : ∀ j, j ≤ 17 → ∃ t, lr_ite f j (some h) = some t ∧ t < N := by
      intro j
      induction j with
      | zero => intro _; exact ⟨h, rfl, hh⟩
      | succ j ih =>
        intro hj
        obtain ⟨t, ht, htN⟩ := ih (by omega)
        have e : lr_ite f (j + 1) (some h) = f t := by rw [lr_ite_add, ht]; rfl
        rcases hft : f t with _ | u
        · exfalso
          apply h17
          rw [show 17 = (j + 1) + (17 - (j + 1)) from by omega, lr_ite_add, e, hft, lr_ite_none]
        · exact ⟨u, by rw [e, hft], hf _ _ hft⟩
    obtain ⟨i, j, hij, hj, he⟩ := lr_pigeon N (fun j => (lr_ite f j (some h)).getD 0) (fun j hj => by
      obtain ⟨t, ht, htN⟩ := hs j (by omega)
      show (lr_ite f j (some h)).getD 0 < N
      rw [ht]; exact htN)
    obtain ⟨t, ht, htN⟩ := hs i (by omega)
    obtain ⟨u, hu, huN⟩ := hs j (by omega)
    have e : t = u := by
      have he' : (lr_ite f i (some h)).getD 0 = (lr_ite f j (some h)).getD 0 := he
      rw [ht, hu] at he'; exact he'
    refine ⟨t, j - i, htN, by omega, by omega, ?_⟩
    have q := lr_ite_add f i (j - i) (some h)
    rw [show i + (j - i) = j from by omega, hu, ht] at q
    rw [← q, e]
  · rintro ⟨s, m, hs, hm1, hm, hc⟩
    refine ⟨s, hs, fun e => ?_⟩
    have q := lr_ite_cyc hc 17
    have hle : 17 ≤ m * 17 := by omega
    rw [show m * 17 = 17 + (m * 17 - 17) from by omega, lr_ite_add, e, lr_ite_none] at q
    exact absurd q (by simp)
def lr_o2i : Option Nat → Int32
  | none => -1
  | some t => nI t
/-- an answer -1 or a house, as an option -/
def lr_i2o (x : Int32) : Option Nat := if x = -1 then none else some x.toNatClampNeg
theorem lr_i2o_o2i {x : Int32} {N : Nat} (hN : N ≤ 100) (h : x = -1 ∨ ∃ t, x = nI t ∧ t < N) : lr_o2i (lr_i2o x) = x := by
  unfold lr_i2o
  rcases h with e | ⟨t, e, ht⟩
  · rw [if_pos e, e]; rfl
  · rw [e, if_neg (lr_ne1 (by omega)), nI_clamp (by omega)]; rfl
theorem lr_i2o_lt {x : Int32} {N t : Nat} (hN : N ≤ 100) (h : x = -1 ∨ ∃ t, x = nI t ∧ t < N) (e : lr_i2o x = some t) : t < N ∧ x = nI t := by
  unfold lr_i2o at e
  rcases h with q | ⟨u, q, hu⟩
  · rw [if_pos q] at e; exact absurd e (by simp)
  · rw [q, if_neg (lr_ne1 (by omega)), nI_clamp (by omega)] at e
    have : u = t := by simpa using e
    rw [← this]; exact ⟨hu, q⟩
/-- the chain by lr_ld -/
theorem lr_on_ite {g : Nat → Int32} (hG : lr_G g) (d : Int32) : ∀ n x, (∀ t, x = some t → t < 1000) → lr_on g d n (lr_o2i x) = lr_o2i (lr_ite (fun h => lr_i2o (lr_ld g 1 (nI h) d)) n x) := by
  have m1 := lr_mh hG
  intro n
  induction n with
  | zero => intro x _; rfl
  | succ n ih =>
    intro x hx
    simp only [lr_on, lr_ite]
    rcases x with _ | t
    · rw [show lr_o2i none = -1 from rfl, if_pos rfl, Option.bind_none, lr_ite_none]; rfl
    · have ht := hx t rfl
      rw [show lr_o2i (some t) = nI t from rfl, if_neg (lr_ne1 (by omega)), Option.bind_some]
      have hok := lr_ld_ok hG 1 (nI t) d
      rw [← ih _ (fun u hu => by have := (lr_i2o_lt (by omega) hok hu).1; omega), lr_i2o_o2i (by omega) hok]
/-- whether some house never ends -/
def lr_nev (f : Nat → Option Nat) (N : Nat) : Prop := ∃ h, h < N ∧ lr_ite f 17 (some h) ≠ none
theorem lr_any_iff {p : Nat → Bool} : ∀ n k, lr_any p n k = true ↔ ∃ i, k ≤ i ∧ i < k + n ∧ p i = true := by
  intro n
  induction n with
  | zero => intro k; simp only [lr_any]; exact ⟨fun h => absurd h (by decide), fun ⟨i, h1, h2, _⟩ => by omega⟩
  | succ n ih =>
    intro k
    simp only [lr_any]
    by_cases h : p k = true
    · rw [if_pos h]; exact ⟨fun _ => ⟨k, Nat.le_refl _, by omega, h⟩, fun _ => rfl⟩
    · rw [if_neg h, ih (k + 1)]
      constructor
      · rintro ⟨i, h1, h2, h3⟩; exact ⟨i, by omega, by omega, h3⟩
      · rintro ⟨i, h1, h2, h3⟩
        have : i ≠ k := fun e => h (e ▸ h3)
        exact ⟨i, by omega, by omega, h3⟩
theorem lr_rnd_iff {g : Nat → Int32} (hG : lr_G g) (d : Int32) : lr_rnd g d = true ↔ lr_nev (fun h => lr_i2o (lr_ld g 1 (nI h) d)) (lr_n g 2) := by
  have m1 := lr_mh hG
  unfold lr_rnd lr_nev
  rw [lr_any_iff]
  have key : ∀ h, h < lr_n g 2 → (decide (0 ≤ lr_on g d 17 (nI h)) = true ↔ lr_ite (fun h => lr_i2o (lr_ld g 1 (nI h) d)) 17 (some h) ≠ none) := by
    intro h hh
    have e := lr_on_ite hG d 17 (some h) (fun t ht => by have : h = t := (by simpa using ht); omega)
    have hok := lr_on_ok hG d 17 (nI h) (Or.inr ⟨h, rfl, hh⟩)
    rw [show lr_o2i (some h) = nI h from rfl] at e
    rw [decide_eq_true_iff, e]
    rw [e] at hok
    rcases hq : lr_ite (fun h => lr_i2o (lr_ld g 1 (nI h) d)) 17 (some h) with _ | t
    · exact ⟨fun c => absurd c (by decide), fun c => absurd rfl c⟩
    · refine ⟨fun _ => by simp, fun _ => ?_⟩
      rw [hq] at hok
      rcases hok with q | ⟨u, q, hu⟩
      · rw [show lr_o2i (some t) = nI t from rfl] at q
        exfalso
        have hb : t < 2 ^ 31 := by
          have hs : ∀ n x, (∀ u, x = some u → u < 100) → ∀ u, lr_ite (fun h => lr_i2o (lr_ld g 1 (nI h) d)) n x = some u → u < 100 := by
            intro n
            induction n with
            | zero => intro x hx u hu; exact hx u hu
            | succ n ih =>
              intro x hx u hu
              simp only [lr_ite] at hu
              refine ih _ (fun y hy => ?_) u hu
              rcases x with _ | z
              · exact absurd hy (by simp)
              · rw [Option.bind_some] at hy
                have := (lr_i2o_lt (by omega) (lr_ld_ok hG 1 (nI z) d) hy).1; omega
          have := hs 17 (some h) (fun u hu => by have : h = u := (by simpa using hu); omega) t hq
          omega
        exact lr_ne1 hb q
      · rw [q]; exact nI_pos' (by omega)
  constructor
  · rintro ⟨i, h1, h2, h3⟩; exact ⟨i, by omega, (key i (by omega)).mp h3⟩
  · rintro ⟨i, h1, h2⟩; exact ⟨i, by omega, by omega, (key i h1).mpr h2⟩
