/-! THE ABSTRACT STATE: the model's row g. What holds of a good row; how the cells of an office at b stand to it; what is asked of it -/
def lr_n (g : Nat → Int32) (i : Nat) : Nat := (g i).toNatClampNeg
def lr_Rh (f : Nat → Nat → Int32) (b : Nat) (g : Nat → Int32) : Prop := f (b + 1) 0 = g 2 ∧ (∀ i, i < lr_n g 2 → f (b + 2) i = g (3 + 2 * i) ∧ f (b + 3) i = g (4 + 2 * i))
def lr_Rp (f : Nat → Nat → Int32) (b : Nat) (g : Nat → Int32) : Prop := f (b + 4) 0 = g 35 ∧ (∀ i, i < lr_n g 35 → f (b + 5) i = g (36 + 4 * i) ∧ f (b + 6) i = g (37 + 4 * i) ∧ f (b + 7) i = g (38 + 4 * i) ∧ f (b + 8) i = g (39 + 4 * i))
def lr_Rw (f : Nat → Nat → Int32) (b : Nat) (g : Nat → Int32) : Prop := f (b + 9) 0 = g 116 ∧ (∀ i, i < lr_n g 116 → f (b + 10) i = g (117 + 5 * i) ∧ f (b + 11) i = g (118 + 5 * i) ∧ f (b + 12) i = g (119 + 5 * i) ∧ f (b + 13) i = g (120 + 5 * i) ∧ f (b + 14) i = g (121 + 5 * i))
def lr_Rr (f : Nat → Nat → Int32) (b : Nat) (g : Nat → Int32) : Prop := f (b + 15) 0 = g 167 ∧ (∀ i, i < lr_n g 167 → f (b + 16) i = g (168 + 5 * i) ∧ f (b + 17) i = g (169 + 5 * i) ∧ f (b + 18) i = g (170 + 5 * i) ∧ f (b + 19) i = g (171 + 5 * i) ∧ f (b + 20) i = g (172 + 5 * i))
def lr_Ra (f : Nat → Nat → Int32) (b : Nat) (g : Nat → Int32) : Prop := f (b + 21) 0 = g 228 ∧ (∀ i, i < lr_n g 228 → f (b + 22) i = g (229 + 3 * i) ∧ f (b + 23) i = g (230 + 3 * i) ∧ f (b + 24) i = g (231 + 3 * i))
def lr_Rl (f : Nat → Nat → Int32) (b : Nat) (g : Nat → Int32) : Prop := f (b + 25) 1 = g 1 ∧ f (b + 25) 0 = g 289 ∧ (∀ i, i < lr_n g 289 → f (b + 26) i = g (290 + 11 * i) ∧ f (b + 27) i = g (291 + 11 * i) ∧ f (b + 28) i = g (292 + 11 * i) ∧ f (b + 29) i = g (293 + 11 * i) ∧ f (b + 30) i = g (294 + 11 * i) ∧ f (b + 31) i = g (295 + 11 * i) ∧ f (b + 32) i = g (296 + 11 * i) ∧ f (b + 33) i = g (297 + 11 * i) ∧ f (b + 34) i = g (298 + 11 * i) ∧ f (b + 35) i = g (299 + 11 * i) ∧ f (b + 36) i = g (300 + 11 * i)) ∧ (∀ i d, i < lr_n g 289 → g (300 + 11 * i) = nI d → d < 30 → f (b + 37) d = nI i)
def lr_Rel (f : Nat → Nat → Int32) (b : Nat) (g : Nat → Int32) : Prop := f b 6 = g 0 ∧ lr_Rh f b g ∧ lr_Rp f b g ∧ lr_Rw f b g ∧ lr_Rr f b g ∧ lr_Ra f b g ∧ lr_Rl f b g
theorem lr_rT {f : Nat → Nat → Int32} {g : Nat → Int32} (hR : lr_Rel f 1 g) : f 1 6 = g 0 := hR.1
theorem lr_rD {f : Nat → Nat → Int32} {g : Nat → Int32} (hR : lr_Rel f 1 g) : f 26 1 = g 1 := hR.2.2.2.2.2.2.1
theorem lr_rNh {f : Nat → Nat → Int32} {g : Nat → Int32} (hR : lr_Rel f 1 g) : f 2 0 = g 2 := (hR.2.1).1
theorem lr_rhst {f : Nat → Nat → Int32} {g : Nat → Int32} (hR : lr_Rel f 1 g) {i : Nat} (hi : i < lr_n g 2) : f 3 i = g (3 + 2 * i) := ((hR.2.1).2 i hi).1
theorem lr_rhnu {f : Nat → Nat → Int32} {g : Nat → Int32} (hR : lr_Rel f 1 g) {i : Nat} (hi : i < lr_n g 2) : f 4 i = g (4 + 2 * i) := ((hR.2.1).2 i hi).2
theorem lr_Rh.mv {f f2 : Nat → Nat → Int32} {b b2 : Nat} {g g2 : Nat → Int32} (h : lr_Rh f b g) (hn : lr_n g 2 ≤ 16) (hf0 : f2 (b2 + 1) 0 = f (b + 1) 0) (hf : ∀ k i, 2 ≤ k → k ≤ 3 → i < 16 → f2 (b2 + k) i = f (b + k) i) (hg : ∀ j, 2 ≤ j → j < 35 → g2 j = g j) : lr_Rh f2 b2 g2 := by
  have e0 : lr_n g2 2 = lr_n g 2 := by unfold lr_n; rw [hg 2 (by omega) (by omega)]
  obtain ⟨h1, h2⟩ := h
  refine ⟨by rw [hf0, hg 2 (by omega) (by omega)]; exact h1, fun i hi => ?_⟩
  · rw [e0] at hi
    obtain ⟨q0, q1⟩ := h2 i hi
    exact ⟨by rw [hf 2 i (by omega) (by omega) (by omega), hg (3 + 2 * i) (by omega) (by omega)]; exact q0, by rw [hf 3 i (by omega) (by omega) (by omega), hg (4 + 2 * i) (by omega) (by omega)]; exact q1⟩
theorem lr_rNp {f : Nat → Nat → Int32} {g : Nat → Int32} (hR : lr_Rel f 1 g) : f 5 0 = g 35 := (hR.2.2.1).1
theorem lr_rpho {f : Nat → Nat → Int32} {g : Nat → Int32} (hR : lr_Rel f 1 g) {i : Nat} (hi : i < lr_n g 35) : f 6 i = g (36 + 4 * i) := ((hR.2.2.1).2 i hi).1
theorem lr_rphe {f : Nat → Nat → Int32} {g : Nat → Int32} (hR : lr_Rel f 1 g) {i : Nat} (hi : i < lr_n g 35) : f 7 i = g (37 + 4 * i) := ((hR.2.2.1).2 i hi).2.1
theorem lr_rpli {f : Nat → Nat → Int32} {g : Nat → Int32} (hR : lr_Rel f 1 g) {i : Nat} (hi : i < lr_n g 35) : f 8 i = g (38 + 4 * i) := ((hR.2.2.1).2 i hi).2.2.1
theorem lr_rpal {f : Nat → Nat → Int32} {g : Nat → Int32} (hR : lr_Rel f 1 g) {i : Nat} (hi : i < lr_n g 35) : f 9 i = g (39 + 4 * i) := ((hR.2.2.1).2 i hi).2.2.2
theorem lr_Rp.mv {f f2 : Nat → Nat → Int32} {b b2 : Nat} {g g2 : Nat → Int32} (h : lr_Rp f b g) (hn : lr_n g 35 ≤ 20) (hf0 : f2 (b2 + 4) 0 = f (b + 4) 0) (hf : ∀ k i, 5 ≤ k → k ≤ 8 → i < 20 → f2 (b2 + k) i = f (b + k) i) (hg : ∀ j, 35 ≤ j → j < 116 → g2 j = g j) : lr_Rp f2 b2 g2 := by
  have e0 : lr_n g2 35 = lr_n g 35 := by unfold lr_n; rw [hg 35 (by omega) (by omega)]
  obtain ⟨h1, h2⟩ := h
  refine ⟨by rw [hf0, hg 35 (by omega) (by omega)]; exact h1, fun i hi => ?_⟩
  · rw [e0] at hi
    obtain ⟨q0, q1, q2, q3⟩ := h2 i hi
    exact ⟨by rw [hf 5 i (by omega) (by omega) (by omega), hg (36 + 4 * i) (by omega) (by omega)]; exact q0, by rw [hf 6 i (by omega) (by omega) (by omega), hg (37 + 4 * i) (by omega) (by omega)]; exact q1, by rw [hf 7 i (by omega) (by omega) (by omega), hg (38 + 4 * i) (by omega) (by omega)]; exact q2, by rw [hf 8 i (by omega) (by omega) (by omega), hg (39 + 4 * i) (by omega) (by omega)]; exact q3⟩
theorem lr_rNw {f : Nat → Nat → Int32} {g : Nat → Int32} (hR : lr_Rel f 1 g) : f 10 0 = g 116 := (hR.2.2.2.1).1
theorem lr_rwst {f : Nat → Nat → Int32} {g : Nat → Int32} (hR : lr_Rel f 1 g) {i : Nat} (hi : i < lr_n g 116) : f 11 i = g (117 + 5 * i) := ((hR.2.2.2.1).2 i hi).1
theorem lr_rwsd {f : Nat → Nat → Int32} {g : Nat → Int32} (hR : lr_Rel f 1 g) {i : Nat} (hi : i < lr_n g 116) : f 12 i = g (118 + 5 * i) := ((hR.2.2.2.1).2 i hi).2.1
theorem lr_rwdi {f : Nat → Nat → Int32} {g : Nat → Int32} (hR : lr_Rel f 1 g) {i : Nat} (hi : i < lr_n g 116) : f 13 i = g (119 + 5 * i) := ((hR.2.2.2.1).2 i hi).2.2.1
theorem lr_rwfi {f : Nat → Nat → Int32} {g : Nat → Int32} (hR : lr_Rel f 1 g) {i : Nat} (hi : i < lr_n g 116) : f 14 i = g (120 + 5 * i) := ((hR.2.2.2.1).2 i hi).2.2.2.1
theorem lr_rwla {f : Nat → Nat → Int32} {g : Nat → Int32} (hR : lr_Rel f 1 g) {i : Nat} (hi : i < lr_n g 116) : f 15 i = g (121 + 5 * i) := ((hR.2.2.2.1).2 i hi).2.2.2.2
theorem lr_Rw.mv {f f2 : Nat → Nat → Int32} {b b2 : Nat} {g g2 : Nat → Int32} (h : lr_Rw f b g) (hn : lr_n g 116 ≤ 10) (hf0 : f2 (b2 + 9) 0 = f (b + 9) 0) (hf : ∀ k i, 10 ≤ k → k ≤ 14 → i < 10 → f2 (b2 + k) i = f (b + k) i) (hg : ∀ j, 116 ≤ j → j < 167 → g2 j = g j) : lr_Rw f2 b2 g2 := by
  have e0 : lr_n g2 116 = lr_n g 116 := by unfold lr_n; rw [hg 116 (by omega) (by omega)]
  obtain ⟨h1, h2⟩ := h
  refine ⟨by rw [hf0, hg 116 (by omega) (by omega)]; exact h1, fun i hi => ?_⟩
  · rw [e0] at hi
    obtain ⟨q0, q1, q2, q3, q4⟩ := h2 i hi
    exact ⟨by rw [hf 10 i (by omega) (by omega) (by omega), hg (117 + 5 * i) (by omega) (by omega)]; exact q0, by rw [hf 11 i (by omega) (by omega) (by omega), hg (118 + 5 * i) (by omega) (by omega)]; exact q1, by rw [hf 12 i (by omega) (by omega) (by omega), hg (119 + 5 * i) (by omega) (by omega)]; exact q2, by rw [hf 13 i (by omega) (by omega) (by omega), hg (120 + 5 * i) (by omega) (by omega)]; exact q3, by rw [hf 14 i (by omega) (by omega) (by omega), hg (121 + 5 * i) (by omega) (by omega)]; exact q4⟩
theorem lr_rNr {f : Nat → Nat → Int32} {g : Nat → Int32} (hR : lr_Rel f 1 g) : f 16 0 = g 167 := (hR.2.2.2.2.1).1
theorem lr_rrki {f : Nat → Nat → Int32} {g : Nat → Int32} (hR : lr_Rel f 1 g) {i : Nat} (hi : i < lr_n g 167) : f 17 i = g (168 + 5 * i) := ((hR.2.2.2.2.1).2 i hi).1
theorem lr_rrso {f : Nat → Nat → Int32} {g : Nat → Int32} (hR : lr_Rel f 1 g) {i : Nat} (hi : i < lr_n g 167) : f 18 i = g (169 + 5 * i) := ((hR.2.2.2.2.1).2 i hi).2.1
theorem lr_rrta {f : Nat → Nat → Int32} {g : Nat → Int32} (hR : lr_Rel f 1 g) {i : Nat} (hi : i < lr_n g 167) : f 19 i = g (170 + 5 * i) := ((hR.2.2.2.2.1).2 i hi).2.2.1
theorem lr_rrfi {f : Nat → Nat → Int32} {g : Nat → Int32} (hR : lr_Rel f 1 g) {i : Nat} (hi : i < lr_n g 167) : f 20 i = g (171 + 5 * i) := ((hR.2.2.2.2.1).2 i hi).2.2.2.1
theorem lr_rrla {f : Nat → Nat → Int32} {g : Nat → Int32} (hR : lr_Rel f 1 g) {i : Nat} (hi : i < lr_n g 167) : f 21 i = g (172 + 5 * i) := ((hR.2.2.2.2.1).2 i hi).2.2.2.2
theorem lr_Rr.mv {f f2 : Nat → Nat → Int32} {b b2 : Nat} {g g2 : Nat → Int32} (h : lr_Rr f b g) (hn : lr_n g 167 ≤ 12) (hf0 : f2 (b2 + 15) 0 = f (b + 15) 0) (hf : ∀ k i, 16 ≤ k → k ≤ 20 → i < 12 → f2 (b2 + k) i = f (b + k) i) (hg : ∀ j, 167 ≤ j → j < 228 → g2 j = g j) : lr_Rr f2 b2 g2 := by
  have e0 : lr_n g2 167 = lr_n g 167 := by unfold lr_n; rw [hg 167 (by omega) (by omega)]
  obtain ⟨h1, h2⟩ := h
  refine ⟨by rw [hf0, hg 167 (by omega) (by omega)]; exact h1, fun i hi => ?_⟩
  · rw [e0] at hi
    obtain ⟨q0, q1, q2, q3, q4⟩ := h2 i hi
    exact ⟨by rw [hf 16 i (by omega) (by omega) (by omega), hg (168 + 5 * i) (by omega) (by omega)]; exact q0, by rw [hf 17 i (by omega) (by omega) (by omega), hg (169 + 5 * i) (by omega) (by omega)]; exact q1, by rw [hf 18 i (by omega) (by omega) (by omega), hg (170 + 5 * i) (by omega) (by omega)]; exact q2, by rw [hf 19 i (by omega) (by omega) (by omega), hg (171 + 5 * i) (by omega) (by omega)]; exact q3, by rw [hf 20 i (by omega) (by omega) (by omega), hg (172 + 5 * i) (by omega) (by omega)]; exact q4⟩
theorem lr_rNa {f : Nat → Nat → Int32} {g : Nat → Int32} (hR : lr_Rel f 1 g) : f 22 0 = g 228 := (hR.2.2.2.2.2.1).1
theorem lr_rape {f : Nat → Nat → Int32} {g : Nat → Int32} (hR : lr_Rel f 1 g) {i : Nat} (hi : i < lr_n g 228) : f 23 i = g (229 + 3 * i) := ((hR.2.2.2.2.2.1).2 i hi).1
theorem lr_rafi {f : Nat → Nat → Int32} {g : Nat → Int32} (hR : lr_Rel f 1 g) {i : Nat} (hi : i < lr_n g 228) : f 24 i = g (230 + 3 * i) := ((hR.2.2.2.2.2.1).2 i hi).2.1
theorem lr_rala {f : Nat → Nat → Int32} {g : Nat → Int32} (hR : lr_Rel f 1 g) {i : Nat} (hi : i < lr_n g 228) : f 25 i = g (231 + 3 * i) := ((hR.2.2.2.2.2.1).2 i hi).2.2
theorem lr_Ra.mv {f f2 : Nat → Nat → Int32} {b b2 : Nat} {g g2 : Nat → Int32} (h : lr_Ra f b g) (hn : lr_n g 228 ≤ 20) (hf0 : f2 (b2 + 21) 0 = f (b + 21) 0) (hf : ∀ k i, 22 ≤ k → k ≤ 24 → i < 20 → f2 (b2 + k) i = f (b + k) i) (hg : ∀ j, 228 ≤ j → j < 289 → g2 j = g j) : lr_Ra f2 b2 g2 := by
  have e0 : lr_n g2 228 = lr_n g 228 := by unfold lr_n; rw [hg 228 (by omega) (by omega)]
  obtain ⟨h1, h2⟩ := h
  refine ⟨by rw [hf0, hg 228 (by omega) (by omega)]; exact h1, fun i hi => ?_⟩
  · rw [e0] at hi
    obtain ⟨q0, q1, q2⟩ := h2 i hi
    exact ⟨by rw [hf 22 i (by omega) (by omega) (by omega), hg (229 + 3 * i) (by omega) (by omega)]; exact q0, by rw [hf 23 i (by omega) (by omega) (by omega), hg (230 + 3 * i) (by omega) (by omega)]; exact q1, by rw [hf 24 i (by omega) (by omega) (by omega), hg (231 + 3 * i) (by omega) (by omega)]; exact q2⟩
theorem lr_rNl {f : Nat → Nat → Int32} {g : Nat → Int32} (hR : lr_Rel f 1 g) : f 26 0 = g 289 := (hR.2.2.2.2.2.2).2.1
theorem lr_rlpe {f : Nat → Nat → Int32} {g : Nat → Int32} (hR : lr_Rel f 1 g) {i : Nat} (hi : i < lr_n g 289) : f 27 i = g (290 + 11 * i) := ((hR.2.2.2.2.2.2).2.2.1 i hi).1
theorem lr_rlwe {f : Nat → Nat → Int32} {g : Nat → Int32} (hR : lr_Rel f 1 g) {i : Nat} (hi : i < lr_n g 289) : f 28 i = g (291 + 11 * i) := ((hR.2.2.2.2.2.2).2.2.1 i hi).2.1
theorem lr_rlre {f : Nat → Nat → Int32} {g : Nat → Int32} (hR : lr_Rel f 1 g) {i : Nat} (hi : i < lr_n g 289) : f 29 i = g (292 + 11 * i) := ((hR.2.2.2.2.2.2).2.2.1 i hi).2.2.1
theorem lr_rlca {f : Nat → Nat → Int32} {g : Nat → Int32} (hR : lr_Rel f 1 g) {i : Nat} (hi : i < lr_n g 289) : f 30 i = g (293 + 11 * i) := ((hR.2.2.2.2.2.2).2.2.1 i hi).2.2.2.1
theorem lr_rlst {f : Nat → Nat → Int32} {g : Nat → Int32} (hR : lr_Rel f 1 g) {i : Nat} (hi : i < lr_n g 289) : f 31 i = g (294 + 11 * i) := ((hR.2.2.2.2.2.2).2.2.1 i hi).2.2.2.2.1
theorem lr_rlen {f : Nat → Nat → Int32} {g : Nat → Int32} (hR : lr_Rel f 1 g) {i : Nat} (hi : i < lr_n g 289) : f 32 i = g (295 + 11 * i) := ((hR.2.2.2.2.2.2).2.2.1 i hi).2.2.2.2.2.1
theorem lr_rlrs {f : Nat → Nat → Int32} {g : Nat → Int32} (hR : lr_Rel f 1 g) {i : Nat} (hi : i < lr_n g 289) : f 33 i = g (296 + 11 * i) := ((hR.2.2.2.2.2.2).2.2.1 i hi).2.2.2.2.2.2.1
theorem lr_rltr {f : Nat → Nat → Int32} {g : Nat → Int32} (hR : lr_Rel f 1 g) {i : Nat} (hi : i < lr_n g 289) : f 34 i = g (297 + 11 * i) := ((hR.2.2.2.2.2.2).2.2.1 i hi).2.2.2.2.2.2.2.1
theorem lr_rlho {f : Nat → Nat → Int32} {g : Nat → Int32} (hR : lr_Rel f 1 g) {i : Nat} (hi : i < lr_n g 289) : f 35 i = g (298 + 11 * i) := ((hR.2.2.2.2.2.2).2.2.1 i hi).2.2.2.2.2.2.2.2.1
theorem lr_rlsi {f : Nat → Nat → Int32} {g : Nat → Int32} (hR : lr_Rel f 1 g) {i : Nat} (hi : i < lr_n g 289) : f 36 i = g (299 + 11 * i) := ((hR.2.2.2.2.2.2).2.2.1 i hi).2.2.2.2.2.2.2.2.2.1
theorem lr_rlnu {f : Nat → Nat → Int32} {g : Nat → Int32} (hR : lr_Rel f 1 g) {i : Nat} (hi : i < lr_n g 289) : f 37 i = g (300 + 11 * i) := ((hR.2.2.2.2.2.2).2.2.1 i hi).2.2.2.2.2.2.2.2.2.2
theorem lr_Rl.mv {f f2 : Nat → Nat → Int32} {b b2 : Nat} {g g2 : Nat → Int32} (h : lr_Rl f b g) (hn : lr_n g 289 ≤ 30) (hf0 : f2 (b2 + 25) 0 = f (b + 25) 0) (hf1 : f2 (b2 + 25) 1 = f (b + 25) 1) (hf : ∀ k i, 26 ≤ k → k ≤ 37 → i < 30 → f2 (b2 + k) i = f (b + k) i) (hg : ∀ j, 289 ≤ j → j < 620 → g2 j = g j) (hg1 : g2 1 = g 1) : lr_Rl f2 b2 g2 := by
  have e0 : lr_n g2 289 = lr_n g 289 := by unfold lr_n; rw [hg 289 (by omega) (by omega)]
  obtain ⟨h0, h1, h2, h3⟩ := h
  refine ⟨by rw [hf1, hg1]; exact h0, by rw [hf0, hg 289 (by omega) (by omega)]; exact h1, fun i hi => ?_, fun i d hi hd h9 => ?_⟩
  · rw [e0] at hi
    obtain ⟨q0, q1, q2, q3, q4, q5, q6, q7, q8, q9, q10⟩ := h2 i hi
    exact ⟨by rw [hf 26 i (by omega) (by omega) (by omega), hg (290 + 11 * i) (by omega) (by omega)]; exact q0, by rw [hf 27 i (by omega) (by omega) (by omega), hg (291 + 11 * i) (by omega) (by omega)]; exact q1, by rw [hf 28 i (by omega) (by omega) (by omega), hg (292 + 11 * i) (by omega) (by omega)]; exact q2, by rw [hf 29 i (by omega) (by omega) (by omega), hg (293 + 11 * i) (by omega) (by omega)]; exact q3, by rw [hf 30 i (by omega) (by omega) (by omega), hg (294 + 11 * i) (by omega) (by omega)]; exact q4, by rw [hf 31 i (by omega) (by omega) (by omega), hg (295 + 11 * i) (by omega) (by omega)]; exact q5, by rw [hf 32 i (by omega) (by omega) (by omega), hg (296 + 11 * i) (by omega) (by omega)]; exact q6, by rw [hf 33 i (by omega) (by omega) (by omega), hg (297 + 11 * i) (by omega) (by omega)]; exact q7, by rw [hf 34 i (by omega) (by omega) (by omega), hg (298 + 11 * i) (by omega) (by omega)]; exact q8, by rw [hf 35 i (by omega) (by omega) (by omega), hg (299 + 11 * i) (by omega) (by omega)]; exact q9, by rw [hf 36 i (by omega) (by omega) (by omega), hg (300 + 11 * i) (by omega) (by omega)]; exact q10⟩
  · rw [e0] at hi
    rw [hg (300 + 11 * i) (by omega) (by omega)] at hd
    rw [hf 37 d (by omega) (by omega) h9]
    exact h3 i d hi hd h9
theorem lr_rda {f : Nat → Nat → Int32} {g : Nat → Int32} (hR : lr_Rel f 1 g) {i d : Nat} (hi : i < lr_n g 289) (hd : g (300 + 11 * i) = nI d) (h : d < 30) : f 38 d = nI i := hR.2.2.2.2.2.2.2.2.2 i d hi hd h
/-- a house number's side -/
def lr_par (x : Int32) : Int32 := if x - x / 2 * 2 = 0 then 0 else 1
/-- whether walk w could serve -/
def lr_cs (g : Nat → Int32) (st nu : Int32) (w : Nat) : Bool := decide (g (117 + 5 * w) = st) && ((decide (g (118 + 5 * w) = 2) || decide (g (118 + 5 * w) = lr_par nu)) && lr_in nu (g (120 + 5 * w)) (g (121 + 5 * w)))
def lr_srv (g : Nat → Int32) (st nu : Int32) : Int32 := lr_fst (lr_cs g st nu) (lr_n g 116) 0
/-- the walk that serves house h -/
def lr_sv (g : Nat → Int32) (h : Nat) : Int32 := lr_srv g (g (3 + 2 * h)) (g (4 + 2 * h))
/-- how many houses a walk serves -/
def lr_svd (g : Nat → Int32) (w : Int32) : Int32 := lr_sum (fun h => lr_b (decide (lr_sv g h = w))) (lr_n g 2)
def lr_cf (g : Nat → Int32) (w : Int32) (a b : Int32) : Bool := if g (119 + 5 * w.toNatClampNeg) = 0 then decide (a < b) else decide (b < a)
/-- how many stops are ahead of house h on its walk -/
def lr_sp (g : Nat → Int32) (h : Nat) : Int32 := lr_sum (fun i => lr_b (decide (lr_sv g i = lr_sv g h) && lr_cf g (lr_sv g h) (g (4 + 2 * i)) (g (4 + 2 * h)))) (lr_n g 2)
def lr_hs (g : Nat → Int32) (w x : Int32) : Int32 := lr_fst (fun i => decide (lr_sv g i = w) && decide (lr_sp g i = x)) (lr_n g 2) 0
/-- where the last redirect leads for which c holds -/
def lr_tg (g : Nat → Int32) (c : Nat → Bool) : Nat → Int32
  | 0 => -1
  | r + 1 => if c r then g (170 + 5 * r) else lr_tg g c r
def lr_rc (g : Nat → Int32) (ki so day : Int32) (r : Nat) : Bool := decide (g (168 + 5 * r) = ki) && (decide (g (169 + 5 * r) = so) && lr_in day (g (171 + 5 * r)) (g (172 + 5 * r)))
def lr_tgo (g : Nat → Int32) (ki so day sk : Int32) : Int32 := lr_tg g (fun r => !(decide (nI r = sk)) && lr_rc g ki so day r) (lr_n g 167)
def lr_ld (g : Nat → Int32) (ki so day : Int32) : Int32 := lr_tg g (lr_rc g ki so day) (lr_n g 167)
theorem lr_tgo_no (g : Nat → Int32) (ki so day : Int32) (h : lr_n g 167 < 1000) : lr_tgo g ki so day (-1) = lr_ld g ki so day := by
  unfold lr_tgo lr_ld
  have : ∀ n, n < 1000 → lr_tg g (fun r => !(decide (nI r = (-1 : Int32))) && lr_rc g ki so day r) n = lr_tg g (lr_rc g ki so day) n := by
    intro n
    induction n with
    | zero => intro _; rfl
    | succ n ih =>
      intro hn
      have h1 : ¬ nI n = (-1 : Int32) := fun h => nI_pos (n := n) (by omega) (by rw [h]; decide)
      simp only [lr_tg, h1, decide_false, Bool.not_false, Bool.true_and, ih (by omega)]
  exact this _ h
/-- ways: the house that a person's way begins with; the next house; the end; the house at a place -/
def lr_wb (g : Nat → Int32) (p : Nat) (day : Int32) : Int32 := if lr_ld g 0 (nI p) day = -1 then g (36 + 4 * p) else lr_ld g 0 (nI p) day
def lr_it (g : Nat → Int32) (day : Int32) : Nat → Int32 → Int32
  | 0, h => h
  | n + 1, h => if lr_ld g 1 h day = -1 then h else lr_it g day n (lr_ld g 1 h day)
def lr_we (g : Nat → Int32) (p : Nat) (day : Int32) : Int32 := lr_it g day 16 (lr_wb g p day)
def lr_on (g : Nat → Int32) (day : Int32) : Nat → Int32 → Int32
  | 0, h => h
  | n + 1, h => if h = -1 then h else lr_on g day n (lr_ld g 1 h day)
/-- whether p holds at some place from k on, of n -/
def lr_any (p : Nat → Bool) : Nat → Nat → Bool
  | 0, _ => false
  | n + 1, k => if p k then true else lr_any p n (k + 1)
def lr_abs (g : Nat → Int32) (p day : Int32) : Bool := lr_any (fun a => decide (g (229 + 3 * a) = p) && lr_in day (g (230 + 3 * a)) (g (231 + 3 * a))) (lr_n g 228) 0
def lr_al (g : Nat → Int32) (p : Nat) (q : Int32) : Bool := !(decide (g (39 + 4 * p) &&& (1 <<< (q &&& 31)) = 0))
def lr_sgc (g : Nat → Int32) (p : Nat) (e day : Int32) (i : Nat) : Bool := lr_al g p (nI i) && (decide (g (36 + 4 * i) = e) && !(lr_abs g (nI i) day))
/-- who signs for p; -1: nobody -/
def lr_sg (g : Nat → Int32) (p : Nat) (day : Int32) : Int32 := if lr_abs g (nI p) day = false then nI p else lr_fst (lr_sgc g p (lr_we g p day) day) (lr_n g 35) 0
/-- what a day does to letter l: 0 left, 1 to 3 the reasons, 5 handed over -/
def lr_oc (g : Nat → Int32) (l : Nat) (day : Int32) : Int32 :=
  if day ≤ g (37 + 4 * lr_n g (290 + 11 * l)) then 0
  else if lr_sv g (lr_we g (lr_n g (290 + 11 * l)) day).toNatClampNeg = -1 then 1
  else if g (38 + 4 * lr_n g (290 + 11 * l)) < g (291 + 11 * l) then 2
  else if g (292 + 11 * l) = 0 then 5
  else if lr_sg g (lr_n g (290 + 11 * l)) day = -1 then 3 else 5
/-- the house h after n more redirects of houses, none: -1 -/
def lr_rnd (g : Nat → Int32) (day : Int32) : Bool := lr_any (fun h => decide (0 ≤ lr_on g day 17 (nI h))) (lr_n g 2) 0
/-- good rows -/
def lr_G (g : Nat → Int32) : Prop :=
  (g 0 = nI (lr_n g 0) ∧ lr_n g 0 ≤ 365) ∧ (g 1 = nI (lr_n g 1) ∧ lr_n g 1 ≤ 30) ∧ (g 2 = nI (lr_n g 2) ∧ lr_n g 2 ≤ 16) ∧ (g 35 = nI (lr_n g 35) ∧ lr_n g 35 ≤ 20) ∧ (g 116 = nI (lr_n g 116) ∧ lr_n g 116 ≤ 10) ∧ (g 167 = nI (lr_n g 167) ∧ lr_n g 167 ≤ 12) ∧ (g 228 = nI (lr_n g 228) ∧ lr_n g 228 ≤ 20) ∧ (g 289 = nI (lr_n g 289) ∧ lr_n g 289 ≤ 30) ∧
  (∀ i, i < lr_n g 2 → ∃ a b, g (3 + 2 * i) = nI a ∧ a ≤ 4 ∧ g (4 + 2 * i) = nI b ∧ 1 ≤ b ∧ b ≤ 99) ∧
  (∀ i, i < lr_n g 35 → (∃ a, g (36 + 4 * i) = nI a ∧ a < lr_n g 2) ∧ (∃ b, g (37 + 4 * i) = nI b - 1 ∧ b ≤ 366) ∧ (∃ c, g (38 + 4 * i) = nI c ∧ c ≤ 9)) ∧
  (∀ i, i < lr_n g 116 → (∃ a, g (118 + 5 * i) = nI a ∧ a ≤ 2) ∧ (∃ b, g (119 + 5 * i) = nI b ∧ b ≤ 1)) ∧
  (∀ i, i < lr_n g 167 → (∃ k, g (168 + 5 * i) = nI k ∧ k ≤ 1) ∧ (∃ s, g (169 + 5 * i) = nI s ∧ s < 20 ∧ (g (168 + 5 * i) = 1 → s < lr_n g 2)) ∧ (∃ t, g (170 + 5 * i) = nI t ∧ t < lr_n g 2) ∧ (∃ a b, g (171 + 5 * i) = nI a ∧ g (172 + 5 * i) = nI b ∧ a ≤ b ∧ b ≤ 365)) ∧
  (∀ i, i < lr_n g 289 → (∃ p, g (290 + 11 * i) = nI p ∧ p < lr_n g 35) ∧ (∃ x, g (291 + 11 * i) = nI x ∧ 1 ≤ x ∧ x ≤ 9) ∧ (∃ x, g (292 + 11 * i) = nI x ∧ x ≤ 1) ∧ (∃ x, g (293 + 11 * i) = nI x ∧ x ≤ lr_n g 0) ∧ (∃ x, g (294 + 11 * i) = nI x ∧ x ≤ 2) ∧ (∃ x, g (295 + 11 * i) = nI x - 1 ∧ x ≤ 366 ∧ (¬ g (294 + 11 * i) = 0 → 1 ≤ x)) ∧ (∃ x, g (296 + 11 * i) = nI x - 1 ∧ x ≤ 5 ∧ (g (294 + 11 * i) = 2 → 1 ≤ x)) ∧ (∃ x, g (297 + 11 * i) = nI x ∧ x ≤ 3) ∧ (∃ x, g (298 + 11 * i) = nI x - 1 ∧ x ≤ 16 ∧ (g (294 + 11 * i) = 1 → 1 ≤ x)) ∧ (∃ x, g (299 + 11 * i) = nI x - 1 ∧ x ≤ 20 ∧ (g (294 + 11 * i) = 1 → g (292 + 11 * i) = 1 → 1 ≤ x)) ∧ (∃ x, g (300 + 11 * i) = nI x - 1 ∧ x ≤ 30))
/-- the numbers of the deliveries -/
def lr_C (g : Nat → Int32) : Prop := lr_n g 1 ≤ lr_n g 289 ∧ (∀ i, i < lr_n g 289 → (g (294 + 11 * i) = 1 ↔ ¬ g (300 + 11 * i) = -1)) ∧ (∀ i d, i < lr_n g 289 → g (300 + 11 * i) = nI d → d < 30 → d < lr_n g 1) ∧ (∀ d, d < lr_n g 1 → ∃ i, i < lr_n g 289 ∧ g (300 + 11 * i) = nI d) ∧ (∀ i j, i < lr_n g 289 → j < lr_n g 289 → g (294 + 11 * i) = 1 → g (300 + 11 * i) = g (300 + 11 * j) → i = j) ∧
  g 1 = lr_sum (fun i => lr_b (decide (g (294 + 11 * i) = 1))) (lr_n g 289)
/-- no redirects lead round -/
def lr_X (g : Nat → Int32) : Prop := ∀ d, d ≤ 365 → lr_rnd g (nI d) = false
theorem lr_gT {g : Nat → Int32} (hG : lr_G g) : g 0 = nI (lr_n g 0) := hG.1.1
theorem lr_mT {g : Nat → Int32} (hG : lr_G g) : lr_n g 0 ≤ 365 := hG.1.2
theorem lr_gD {g : Nat → Int32} (hG : lr_G g) : g 1 = nI (lr_n g 1) := hG.2.1.1
theorem lr_mD {g : Nat → Int32} (hG : lr_G g) : lr_n g 1 ≤ 30 := hG.2.1.2
theorem lr_gh {g : Nat → Int32} (hG : lr_G g) : g 2 = nI (lr_n g 2) := hG.2.2.1.1
theorem lr_mh {g : Nat → Int32} (hG : lr_G g) : lr_n g 2 ≤ 16 := hG.2.2.1.2
theorem lr_gp {g : Nat → Int32} (hG : lr_G g) : g 35 = nI (lr_n g 35) := hG.2.2.2.1.1
theorem lr_mp {g : Nat → Int32} (hG : lr_G g) : lr_n g 35 ≤ 20 := hG.2.2.2.1.2
theorem lr_gw {g : Nat → Int32} (hG : lr_G g) : g 116 = nI (lr_n g 116) := hG.2.2.2.2.1.1
theorem lr_mw {g : Nat → Int32} (hG : lr_G g) : lr_n g 116 ≤ 10 := hG.2.2.2.2.1.2
theorem lr_gr {g : Nat → Int32} (hG : lr_G g) : g 167 = nI (lr_n g 167) := hG.2.2.2.2.2.1.1
theorem lr_mr {g : Nat → Int32} (hG : lr_G g) : lr_n g 167 ≤ 12 := hG.2.2.2.2.2.1.2
theorem lr_ga {g : Nat → Int32} (hG : lr_G g) : g 228 = nI (lr_n g 228) := hG.2.2.2.2.2.2.1.1
theorem lr_ma {g : Nat → Int32} (hG : lr_G g) : lr_n g 228 ≤ 20 := hG.2.2.2.2.2.2.1.2
theorem lr_gl {g : Nat → Int32} (hG : lr_G g) : g 289 = nI (lr_n g 289) := hG.2.2.2.2.2.2.2.1.1
theorem lr_ml {g : Nat → Int32} (hG : lr_G g) : lr_n g 289 ≤ 30 := hG.2.2.2.2.2.2.2.1.2
