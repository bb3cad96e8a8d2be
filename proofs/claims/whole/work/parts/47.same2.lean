/-! rows that differ in letters: what stays -/
/-- what holds of letter i -/
def lr_Lc (g : Nat → Int32) (i : Nat) : Prop := (∃ p, g (290 + 11 * i) = nI p ∧ p < lr_n g 35) ∧ (∃ x, g (291 + 11 * i) = nI x ∧ 1 ≤ x ∧ x ≤ 9) ∧ (∃ x, g (292 + 11 * i) = nI x ∧ x ≤ 1) ∧ (∃ x, g (293 + 11 * i) = nI x ∧ x ≤ lr_n g 0) ∧ (∃ x, g (294 + 11 * i) = nI x ∧ x ≤ 2) ∧ (∃ x, g (295 + 11 * i) = nI x - 1 ∧ x ≤ 366 ∧ (¬ g (294 + 11 * i) = 0 → 1 ≤ x)) ∧ (∃ x, g (296 + 11 * i) = nI x - 1 ∧ x ≤ 5 ∧ (g (294 + 11 * i) = 2 → 1 ≤ x)) ∧ (∃ x, g (297 + 11 * i) = nI x ∧ x ≤ 3) ∧ (∃ x, g (298 + 11 * i) = nI x - 1 ∧ x ≤ 16 ∧ (g (294 + 11 * i) = 1 → 1 ≤ x)) ∧ (∃ x, g (299 + 11 * i) = nI x - 1 ∧ x ≤ 20 ∧ (g (294 + 11 * i) = 1 → g (292 + 11 * i) = 1 → 1 ≤ x)) ∧ (∃ x, g (300 + 11 * i) = nI x - 1 ∧ x ≤ 30)
theorem lr_Lc_of {g : Nat → Int32} (hG : lr_G g) {i : Nat} (hi : i < lr_n g 289) : lr_Lc g i := hG.2.2.2.2.2.2.2.2.2.2.2.2 i hi
/-- rows that say the same of houses, persons, walks, redirects, absences -/
def lr_Sm (g g2 : Nat → Int32) : Prop := ∀ x, 2 ≤ x → x < 289 → g2 x = g x
theorem lr_Sm.rf {g : Nat → Int32} : lr_Sm g g := fun _ _ _ => rfl
theorem lr_Sm.tr {a b c : Nat → Int32} (h1 : lr_Sm a b) (h2 : lr_Sm b c) : lr_Sm a c := fun x hx hy => (h2 x hx hy).trans (h1 x hx hy)
theorem lr_Sm.sy {a b : Nat → Int32} (h1 : lr_Sm a b) : lr_Sm b a := fun x hx hy => (h1 x hx hy).symm
theorem lr_Sm.up {g g2 : Nat → Int32} (h : lr_Sm g g2) {k : Nat} {v : Int32} (hk : k < 2 ∨ 289 ≤ k) : lr_Sm g (upd g2 k v) := fun x hx hy => by rw [upd_ne (by omega)]; exact h x hx hy
theorem lr_Sm.n {g g2 : Nat → Int32} (h : lr_Sm g g2) {x : Nat} (h1 : 2 ≤ x) (h2 : x < 289) : lr_n g2 x = lr_n g x := by unfold lr_n; rw [h x h1 h2]
theorem lr_G.lt {g g2 : Nat → Int32} (hG : lr_G g) (hS : lr_Sm g g2) (h0 : g2 0 = nI (lr_n g2 0) ∧ lr_n g2 0 ≤ 365) (h1 : g2 1 = nI (lr_n g2 1) ∧ lr_n g2 1 ≤ 30) (hn : g2 289 = nI (lr_n g2 289) ∧ lr_n g2 289 ≤ 30) (hl : ∀ i, i < lr_n g2 289 → lr_Lc g2 i) : lr_G g2 := by
  have m1 := lr_mh hG; have m2 := lr_mp hG; have m3 := lr_mw hG; have m4 := lr_mr hG
  have e2 := hS.n (x := 2) (by omega) (by omega); have e35 := hS.n (x := 35) (by omega) (by omega); have e116 := hS.n (x := 116) (by omega) (by omega); have e167 := hS.n (x := 167) (by omega) (by omega); have e228 := hS.n (x := 228) (by omega) (by omega)
  obtain ⟨a0, a1, a2, a35, a116, a167, a228, a289, b2, b35, b116, b167, b289⟩ := hG
  refine ⟨h0, h1, ?_, ?_, ?_, ?_, ?_, hn, ?_, ?_, ?_, ?_, hl⟩
  · rw [e2, hS 2 (by omega) (by omega)]; exact a2
  · rw [e35, hS 35 (by omega) (by omega)]; exact a35
  · rw [e116, hS 116 (by omega) (by omega)]; exact a116
  · rw [e167, hS 167 (by omega) (by omega)]; exact a167
  · rw [e228, hS 228 (by omega) (by omega)]; exact a228
  · intro i hi; rw [e2] at hi; rw [hS _ (by omega) (by omega), hS _ (by omega) (by omega)]; exact b2 i hi
  · intro i hi; rw [e35] at hi; rw [hS (36 + 4 * i) (by omega) (by omega), hS (37 + 4 * i) (by omega) (by omega), hS (38 + 4 * i) (by omega) (by omega), e2]; exact b35 i hi
  · intro i hi; rw [e116] at hi; rw [hS (118 + 5 * i) (by omega) (by omega), hS (119 + 5 * i) (by omega) (by omega)]; exact b116 i hi
  · intro i hi; rw [e167] at hi; rw [hS (168 + 5 * i) (by omega) (by omega), hS (169 + 5 * i) (by omega) (by omega), hS (170 + 5 * i) (by omega) (by omega), hS (171 + 5 * i) (by omega) (by omega), hS (172 + 5 * i) (by omega) (by omega), e2]; exact b167 i hi
/-- letter i says the same -/
def lr_Le (g g2 : Nat → Int32) (i : Nat) : Prop := ∀ c, c < 11 → g2 (290 + c + 11 * i) = g (290 + c + 11 * i)
theorem lr_Le.rf {g : Nat → Int32} {i : Nat} : lr_Le g g i := fun _ _ => rfl
theorem lr_Le.tr {a b c : Nat → Int32} {i : Nat} (h1 : lr_Le a b i) (h2 : lr_Le b c i) : lr_Le a c i := fun k hk => (h2 k hk).trans (h1 k hk)
theorem lr_Le.up {g g2 : Nat → Int32} {i : Nat} (h : lr_Le g g2 i) {k : Nat} {v : Int32} (hk : k < 290 + 11 * i ∨ 301 + 11 * i ≤ k) : lr_Le g (upd g2 k v) i := fun c hc => by rw [upd_ne (by omega)]; exact h c hc
theorem lr_Lc.eq {g g2 : Nat → Int32} {i : Nat} (h : lr_Lc g i) (he : lr_Le g g2 i) (hp : lr_n g2 35 = lr_n g 35) (h0 : lr_n g 0 ≤ lr_n g2 0) : lr_Lc g2 i := by
  have q0 := he 0 (by omega); have q1 := he 1 (by omega); have q2 := he 2 (by omega); have q3 := he 3 (by omega); have q4 := he 4 (by omega); have q5 := he 5 (by omega); have q6 := he 6 (by omega); have q7 := he 7 (by omega); have q8 := he 8 (by omega); have q9 := he 9 (by omega); have q10 := he 10 (by omega)
  simp only [Nat.reduceAdd] at q0 q1 q2 q3 q4 q5 q6 q7 q8 q9 q10
  unfold lr_Lc at h ⊢
  rw [q0, q1, q2, q3, q4, q5, q6, q7, q8, q9, q10, hp]
  obtain ⟨x, hx, hy⟩ := h.2.2.2.1
  exact ⟨h.1, h.2.1, h.2.2.1, ⟨x, hx, by omega⟩, h.2.2.2.2⟩
/-! what houses, persons, walks, redirects, absences alone decide -/
theorem lr_fst_cg {p q : Nat → Bool} : ∀ n k, (∀ i, k ≤ i → i < k + n → p i = q i) → lr_fst p n k = lr_fst q n k := by
  intro n
  induction n with
  | zero => intro k _; rfl
  | succ n ih => intro k h; simp only [lr_fst]; rw [h k (by omega) (by omega), ih (k + 1) (fun i h1 h2 => h i (by omega) (by omega))]
theorem lr_any_cg {p q : Nat → Bool} : ∀ n k, (∀ i, k ≤ i → i < k + n → p i = q i) → lr_any p n k = lr_any q n k := by
  intro n
  induction n with
  | zero => intro k _; rfl
  | succ n ih => intro k h; simp only [lr_any]; rw [h k (by omega) (by omega), ih (k + 1) (fun i h1 h2 => h i (by omega) (by omega))]
theorem lr_sum_cg {p q : Nat → Int32} : ∀ n, (∀ i, i < n → p i = q i) → lr_sum p n = lr_sum q n := by
  intro n
  induction n with
  | zero => intro _; rfl
  | succ n ih => intro h; simp only [lr_sum]; rw [h n (by omega), ih (fun i h1 => h i (by omega))]
theorem lr_Sm.sv {g g2 : Nat → Int32} (h : lr_Sm g g2) (hG : lr_G g) {i : Nat} (hi : i < 16) : lr_sv g2 i = lr_sv g i := by
  have m3 := lr_mw hG
  unfold lr_sv lr_srv
  rw [h.n (x := 116) (by omega) (by omega), h (3 + 2 * i) (by omega) (by omega), h (4 + 2 * i) (by omega) (by omega)]
  refine lr_fst_cg _ _ (fun w h1 h2 => ?_)
  unfold lr_cs
  rw [h (117 + 5 * w) (by omega) (by omega), h (118 + 5 * w) (by omega) (by omega), h (120 + 5 * w) (by omega) (by omega), h (121 + 5 * w) (by omega) (by omega)]
theorem lr_Sm.svd {g g2 : Nat → Int32} (h : lr_Sm g g2) (hG : lr_G g) (w : Int32) : lr_svd g2 w = lr_svd g w := by
  have m1 := lr_mh hG
  unfold lr_svd
  rw [h.n (x := 2) (by omega) (by omega)]
  exact lr_sum_cg _ (fun i hi => by rw [h.sv hG (by omega)])
theorem lr_Sm.sp {g g2 : Nat → Int32} (h : lr_Sm g g2) (hG : lr_G g) {i : Nat} (hi : i < lr_n g 2) : lr_sp g2 i = lr_sp g i := by
  have m1 := lr_mh hG; have m3 := lr_mw hG
  unfold lr_sp
  rw [h.n (x := 2) (by omega) (by omega), h.sv hG (i := i) (by omega), h (4 + 2 * i) (by omega) (by omega)]
  refine lr_sum_cg _ (fun j hj => ?_)
  rw [h.sv hG (i := j) (by omega), h (4 + 2 * j) (by omega) (by omega)]
  congr 2
  unfold lr_cf
  rcases lr_sv_ok g i with e | ⟨v, e, hv⟩
  · rw [e, show (-1 : Int32).toNatClampNeg = 0 from by decide, h _ (by omega) (by omega)]
  · rw [e, nI_clamp (by omega), h _ (by omega) (by omega)]
theorem lr_tg_cg {g g2 : Nat → Int32} {p q : Nat → Bool} : ∀ n, (∀ i, i < n → p i = q i ∧ g2 (170 + 5 * i) = g (170 + 5 * i)) → lr_tg g2 q n = lr_tg g p n := by
  intro n
  induction n with
  | zero => intro _; rfl
  | succ n ih => intro h; simp only [lr_tg]; rw [(h n (by omega)).1, (h n (by omega)).2, ih (fun i h1 => h i (by omega))]
theorem lr_Sm.ld {g g2 : Nat → Int32} (h : lr_Sm g g2) (hG : lr_G g) (k s d : Int32) : lr_ld g2 k s d = lr_ld g k s d := by
  have m4 := lr_mr hG
  unfold lr_ld
  rw [h.n (x := 167) (by omega) (by omega)]
  refine lr_tg_cg _ (fun i hi => ⟨?_, h _ (by omega) (by omega)⟩)
  unfold lr_rc
  rw [h (168 + 5 * i) (by omega) (by omega), h (169 + 5 * i) (by omega) (by omega), h (171 + 5 * i) (by omega) (by omega), h (172 + 5 * i) (by omega) (by omega)]
theorem lr_Sm.wb {g g2 : Nat → Int32} (h : lr_Sm g g2) (hG : lr_G g) {p : Nat} (hp : p < lr_n g 35) (d : Int32) : lr_wb g2 p d = lr_wb g p d := by
  have m2 := lr_mp hG
  unfold lr_wb; rw [h.ld hG, h (36 + 4 * p) (by omega) (by omega)]
theorem lr_Sm.it {g g2 : Nat → Int32} (h : lr_Sm g g2) (hG : lr_G g) (d : Int32) : ∀ n x, lr_it g2 d n x = lr_it g d n x := by
  intro n
  induction n with
  | zero => intro x; rfl
  | succ n ih => intro x; simp only [lr_it]; rw [h.ld hG, ih]
theorem lr_Sm.we {g g2 : Nat → Int32} (h : lr_Sm g g2) (hG : lr_G g) {p : Nat} (hp : p < lr_n g 35) (d : Int32) : lr_we g2 p d = lr_we g p d := by
  unfold lr_we; rw [h.wb hG hp, h.it hG]
theorem lr_Sm.on {g g2 : Nat → Int32} (h : lr_Sm g g2) (hG : lr_G g) (d : Int32) : ∀ n x, lr_on g2 d n x = lr_on g d n x := by
  intro n
  induction n with
  | zero => intro x; rfl
  | succ n ih => intro x; simp only [lr_on]; rw [h.ld hG, ih]
theorem lr_Sm.rnd {g g2 : Nat → Int32} (h : lr_Sm g g2) (hG : lr_G g) (d : Int32) : lr_rnd g2 d = lr_rnd g d := by
  unfold lr_rnd
  rw [h.n (x := 2) (by omega) (by omega)]
  exact lr_any_cg _ _ (fun i _ _ => by rw [h.on hG])
theorem lr_Sm.X {g g2 : Nat → Int32} (h : lr_Sm g g2) (hG : lr_G g) (hX : lr_X g) : lr_X g2 := fun d hd => by rw [h.rnd hG]; exact hX d hd
theorem lr_Sm.abs {g g2 : Nat → Int32} (h : lr_Sm g g2) (hG : lr_G g) (p d : Int32) : lr_abs g2 p d = lr_abs g p d := by
  have m5 := lr_ma hG
  unfold lr_abs
  rw [h.n (x := 228) (by omega) (by omega)]
  exact lr_any_cg _ _ (fun i _ _ => by rw [h (229 + 3 * i) (by omega) (by omega), h (230 + 3 * i) (by omega) (by omega), h (231 + 3 * i) (by omega) (by omega)])
theorem lr_Sm.sg {g g2 : Nat → Int32} (h : lr_Sm g g2) (hG : lr_G g) {p : Nat} (hp : p < lr_n g 35) (d : Int32) : lr_sg g2 p d = lr_sg g p d := by
  have m2 := lr_mp hG
  unfold lr_sg
  rw [h.abs hG, h.n (x := 35) (by omega) (by omega), h.we hG hp]
  split
  · rfl
  · refine lr_fst_cg _ _ (fun i _ _ => ?_)
    unfold lr_sgc lr_al
    rw [h (39 + 4 * p) (by omega) (by omega), h (36 + 4 * i) (by omega) (by omega), h.abs hG]
/-- the first three numbers of letter l decide what a day does to it -/
theorem lr_Sm.oc {g g2 : Nat → Int32} (h : lr_Sm g g2) (hG : lr_G g) {l : Nat} (hl : l < lr_n g 289) (h0 : g2 (290 + 11 * l) = g (290 + 11 * l)) (h1 : g2 (291 + 11 * l) = g (291 + 11 * l)) (h2 : g2 (292 + 11 * l) = g (292 + 11 * l)) (d : Int32) : lr_oc g2 l d = lr_oc g l d := by
  have m1 := lr_mh hG; have m2 := lr_mp hG
  obtain ⟨⟨p, hp, hp2⟩, -⟩ := lr_Lc_of hG hl
  have e : lr_n g (290 + 11 * l) = p := by unfold lr_n; rw [hp]; exact nI_clamp (by omega)
  have e2 : lr_n g2 (290 + 11 * l) = p := by unfold lr_n; rw [h0, hp]; exact nI_clamp (by omega)
  obtain ⟨t, ht, ht2⟩ := lr_we_ok hG hp2 d
  unfold lr_oc
  rw [e, e2, h1, h2, h (37 + 4 * p) (by omega) (by omega), h (38 + 4 * p) (by omega) (by omega), h.we hG hp2, ht, nI_clamp (by omega), h.sv hG (by omega), h.sg hG hp2]
