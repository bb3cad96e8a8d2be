/-! a day, letter by letter -/
theorem upd_comm {g : Nat → Int32} {a b : Nat} {v x : Int32} (h : a ≠ b) : upd (upd g a v) b x = upd (upd g b x) a v := by
  funext j; unfold upd
  by_cases h1 : j = b
  · rw [if_pos h1, if_neg (fun e => h (e.symm.trans h1)), if_pos h1]
  · rw [if_neg h1]
    by_cases h2 : j = a
    · rw [if_pos h2, if_pos h2]
    · rw [if_neg h2, if_neg h2, if_neg h1]
theorem lr_Le.up2 {g g2 : Nat → Int32} {i : Nat} (h : lr_Le g g2 i) {k : Nat} {v : Int32} : lr_Le (upd g k v) (upd g2 k v) i := fun c hc => by
  unfold upd; by_cases e : 290 + c + 11 * i = k
  · rw [if_pos e, if_pos e]
  · rw [if_neg e, if_neg e]; exact h c hc
theorem lr_Le.at_ {g g2 : Nat → Int32} {i : Nat} (h : lr_Le g g2 i) {x : Nat} (h1 : 290 + 11 * i ≤ x) (h2 : x < 301 + 11 * i) : g2 x = g x := by
  have q := h (x - (290 + 11 * i)) (by omega)
  rwa [show 290 + (x - (290 + 11 * i)) + 11 * i = x from by omega] at q
theorem lr_Le.sy {g g2 : Nat → Int32} {i : Nat} (h : lr_Le g g2 i) : lr_Le g2 g i := fun c hc => (h c hc).symm
theorem lr_gret_cg {g g2 : Nat → Int32} {l : Nat} {a b : Int32} (h : lr_Le g g2 l) : lr_Le (lr_gret g l a b) (lr_gret g2 l a b) l := by
  unfold lr_gret; exact h.up2.up2.up2
theorem lr_gdl0_cg {g g2 : Nat → Int32} {l : Nat} {a b c : Int32} (h : lr_Le g g2 l) : lr_Le (lr_gdl0 g l a b c) (lr_gdl0 g2 l a b c) l := by
  unfold lr_gdl0; exact h.up2.up2.up2.up2
theorem lr_look_cg {g g2 : Nat → Int32} (hG : lr_G g) (hS : lr_Sm g g2) (h0 : g2 0 = g 0) {l : Nat} (hl : l < lr_n g 289) (he : lr_Le g g2 l) : lr_Le (lr_look g l) (lr_look g2 l) l := by
  have e0 := he.at_ (x := 290 + 11 * l) (by omega) (by omega); have e1 := he.at_ (x := 291 + 11 * l) (by omega) (by omega); have e2 := he.at_ (x := 292 + 11 * l) (by omega) (by omega); have e7 := he.at_ (x := 297 + 11 * l) (by omega) (by omega)
  have eo := hS.oc hG hl e0 e1 e2 (g 0)
  have hP := lr_Lc.p hG hl
  have ep : lr_n g2 (290 + 11 * l) = lr_n g (290 + 11 * l) := by unfold lr_n; rw [e0]
  have ew := hS.we hG hP.2 (g 0)
  have es := hS.sg hG hP.2 (g 0)
  unfold lr_look
  rw [h0, eo, e2, e7, ep, ew, es]
  split
  · exact he
  split
  · exact lr_gret_cg he
  split
  · exact lr_gret_cg he
  split
  · exact lr_gdl0_cg he
  split
  · exact lr_gret_cg he.up2
  · exact he.up2
/-- letter l looked at, if it waits; then returned, if it is too old -/
def lr_st (g : Nat → Int32) (l : Nat) : Nat → Int32 := if g (294 + 11 * l) = 0 then lr_look g l else g
def lr_rt (g : Nat → Int32) (l : Nat) : Nat → Int32 := if g (294 + 11 * l) = 0 ∧ ¬ g 0 - g (293 + 11 * l) < 30 then lr_gret g l (g 0) 4 else g
def lr_one (g : Nat → Int32) (l : Nat) : Nat → Int32 := lr_rt (lr_st g l) l
theorem lr_st_o {g : Nat → Int32} {l x : Nat} (hx : x < 290 + 11 * l ∨ 301 + 11 * l ≤ x) : lr_st g l x = g x := by
  unfold lr_st; split
  · exact lr_look_o hx
  · rfl
theorem lr_rt_o {g : Nat → Int32} {l x : Nat} (hx : x < 290 + 11 * l ∨ 301 + 11 * l ≤ x) : lr_rt g l x = g x := by
  unfold lr_rt; split
  · exact lr_gret_o hx
  · rfl
theorem lr_one_o {g : Nat → Int32} {l x : Nat} (hx : x < 290 + 11 * l ∨ 301 + 11 * l ≤ x) : lr_one g l x = g x := by
  unfold lr_one; rw [lr_rt_o hx, lr_st_o hx]
theorem lr_st_cg {g g2 : Nat → Int32} (hG : lr_G g) (hS : lr_Sm g g2) (h0 : g2 0 = g 0) {l : Nat} (hl : l < lr_n g 289) (he : lr_Le g g2 l) : lr_Le (lr_st g l) (lr_st g2 l) l := by
  unfold lr_st; rw [he.at_ (x := 294 + 11 * l) (by omega) (by omega)]
  split
  · exact lr_look_cg hG hS h0 hl he
  · exact he
theorem lr_rt_cg {g g2 : Nat → Int32} (h0 : g2 0 = g 0) {l : Nat} (he : lr_Le g g2 l) : lr_Le (lr_rt g l) (lr_rt g2 l) l := by
  unfold lr_rt; rw [he.at_ (x := 294 + 11 * l) (by omega) (by omega), he.at_ (x := 293 + 11 * l) (by omega) (by omega), h0]
  split
  · exact lr_gret_cg he
  · exact he
theorem lr_one_cg {g g2 : Nat → Int32} (hG : lr_G g) (hS : lr_Sm g g2) (h0 : g2 0 = g 0) {l : Nat} (hl : l < lr_n g 289) (he : lr_Le g g2 l) : lr_Le (lr_one g l) (lr_one g2 l) l := by
  unfold lr_one; exact lr_rt_cg (by rw [lr_st_o (by omega), lr_st_o (by omega), h0]) (lr_st_cg hG hS h0 hl he)
theorem lr_pa_at {g : Nat → Int32} (hG : lr_G g) : ∀ k, k ≤ lr_n g 289 → ∀ l, l < k → lr_Le (lr_st g l) (lr_pa g k) l := by
  intro k
  induction k with
  | zero => intro _ l hl; omega
  | succ k ih =>
    intro hk l hl
    by_cases e : l = k
    · subst e
      have q := lr_st_cg hG (lr_pa_sm (k := l)) (lr_pa_o l 0 (by omega)) (l := l) (by omega) (fun c hc => lr_pa_o l _ (by omega))
      exact q
    · refine (ih (by omega) l (by omega)).tr (fun c hc => ?_)
      simp only [lr_pa]
      split
      · exact lr_look_o (by omega)
      · rfl
theorem lr_pb_at {g : Nat → Int32} : ∀ k, ∀ l, l < k → lr_Le (lr_rt g l) (lr_pb g k) l := by
  intro k
  induction k with
  | zero => intro l hl; omega
  | succ k ih =>
    intro l hl
    by_cases e : l = k
    · subst e
      exact lr_rt_cg (lr_pb_o l 0 (by omega)) (fun c hc => lr_pb_o l _ (by omega))
    · refine (ih l (by omega)).tr (fun c hc => ?_)
      simp only [lr_pb]
      split
      · exact lr_gret_o (by omega)
      · rfl
/-- the row before the numbers are given: each letter by itself -/
theorem lr_pab_at {g : Nat → Int32} (hG : lr_G g) {l : Nat} (hl : l < lr_n g 289) : lr_Le (lr_one g l) (lr_pb (lr_pa g (lr_n g 289)) (lr_n g 289)) l :=
  (lr_rt_cg (by rw [lr_pa_o _ 0 (by omega), lr_st_o (by omega)]) (lr_pa_at hG _ (Nat.le_refl _) l hl)).tr (lr_pb_at _ l hl)
theorem lr_pab_o {g : Nat → Int32} {x : Nat} (hx : x < 290 ∨ 290 + 11 * lr_n g 289 ≤ x) : lr_pb (lr_pa g (lr_n g 289)) (lr_n g 289) x = g x := by rw [lr_pb_o _ _ hx, lr_pa_o _ _ hx]
theorem lr_due_cg {g g2 : Nat → Int32} (hG : lr_G g) (hS : lr_Sm g g2) (h0 : g2 0 = g 0) {l : Nat} (hl : l < lr_n g 289) (he : lr_Le g g2 l) : lr_due g2 l = lr_due g l := by
  unfold lr_due; rw [h0, he.at_ (x := 294 + 11 * l) (by omega) (by omega), hS.oc hG hl (he.at_ (by omega) (by omega)) (he.at_ (by omega) (by omega)) (he.at_ (by omega) (by omega))]
/-- the class's first loop: who is handed over is left, the others are done with -/
def lr_pc (g : Nat → Int32) : Nat → Nat → Int32
  | 0 => g
  | k + 1 => if lr_due (lr_pc g k) k = true then lr_pc g k else lr_one (lr_pc g k) k
theorem lr_pc_o {g : Nat → Int32} : ∀ k x : Nat, (x < 290 ∨ 290 + 11 * k ≤ x) → lr_pc g k x = g x := by
  intro k
  induction k with
  | zero => intro x _; rfl
  | succ k ih =>
    intro x hx
    simp only [lr_pc]
    split
    · rw [ih x (by omega)]
    · rw [lr_one_o (by omega), ih x (by omega)]
theorem lr_pc_sm {g : Nat → Int32} {k : Nat} : lr_Sm g (lr_pc g k) := fun x _ h2 => lr_pc_o k x (by omega)
theorem lr_pc_n {g : Nat → Int32} {k x : Nat} (hx : x < 290) : lr_n (lr_pc g k) x = lr_n g x := by unfold lr_n; rw [lr_pc_o k x (by omega)]
theorem lr_pc_at {g : Nat → Int32} (hG : lr_G g) : ∀ k, k ≤ lr_n g 289 → ∀ l, l < k → lr_Le (if lr_due g l = true then g else lr_one g l) (lr_pc g k) l := by
  intro k
  induction k with
  | zero => intro _ l hl; omega
  | succ k ih =>
    intro hk l hl
    by_cases e : l = k
    · subst e
      have hl2 : lr_Le g (lr_pc g l) l := fun c hc => lr_pc_o l _ (by omega)
      simp only [lr_pc]
      rw [lr_due_cg hG lr_pc_sm (lr_pc_o l 0 (by omega)) (by omega) hl2]
      split
      · exact hl2
      · exact lr_one_cg hG lr_pc_sm (lr_pc_o l 0 (by omega)) (by omega) hl2
    · refine (ih (by omega) l (by omega)).tr (fun c hc => ?_)
      simp only [lr_pc]
      split
      · rfl
      · exact lr_one_o (by omega)
/-- letters handed over, without numbers; and with numbers -/
def lr_dls (dy : Int32) (ho si : Nat → Int32) : List Nat → (Nat → Int32) → Nat → Int32
  | [], A => A
  | s :: S, A => lr_dls dy ho si S (lr_gdl0 A s dy (ho s) (si s))
def lr_gdels (dy : Int32) (ho si : Nat → Int32) : List Nat → (Nat → Int32) → Nat → Int32
  | [], A => A
  | s :: S, A => lr_gdels dy ho si S (lr_gdel A s dy (ho s) (si s))
theorem lr_gdl0_o {A : Nat → Int32} {s x : Nat} {dy ho si : Int32} (h : x < 290 + 11 * s ∨ 301 + 11 * s ≤ x ∨ x = 300 + 11 * s) : lr_gdl0 A s dy ho si x = A x := by
  unfold lr_gdl0; rw [upd_ne (by omega), upd_ne (by omega), upd_ne (by omega), upd_ne (by omega)]
theorem lr_dls_o {dy : Int32} {ho si : Nat → Int32} {x : Nat} : ∀ (S : List Nat) (A : Nat → Int32), (∀ s, s ∈ S → x < 290 + 11 * s ∨ 301 + 11 * s ≤ x) → lr_dls dy ho si S A x = A x := by
  intro S
  induction S with
  | nil => intro A _; rfl
  | cons s S ih =>
    intro A h
    simp only [lr_dls]
    rw [ih _ (fun t ht => h t (List.mem_cons_of_mem _ ht)), lr_gdl0_o (by have := h s (List.mem_cons_self ..); omega)]
theorem lr_dls_at {dy : Int32} {ho si : Nat → Int32} {l : Nat} : ∀ (S : List Nat) (A : Nat → Int32), S.Nodup → l ∈ S → lr_Le (lr_gdl0 A l dy (ho l) (si l)) (lr_dls dy ho si S A) l := by
  intro S
  induction S with
  | nil => intro A _ h; exact absurd h (by simp)
  | cons s S ih =>
    intro A hn h
    rw [List.nodup_cons] at hn
    simp only [lr_dls]
    by_cases e : l = s
    · subst e
      exact fun c hc => lr_dls_o S _ (fun t ht => by have : t ≠ l := fun q => hn.1 (q ▸ ht); omega)
    · have hS : l ∈ S := (List.mem_cons.mp h).resolve_left e
      refine (lr_gdl0_cg (g2 := lr_gdl0 A s dy (ho s) (si s)) (g := A) (fun c hc => lr_gdl0_o (by omega))).tr (ih _ hn.2 hS)
theorem lr_num1_gdl0 {C : Nat → Int32} {s t : Nat} {dy ho si : Int32} : lr_gdl0 (lr_num1 C s) t dy ho si = lr_num1 (lr_gdl0 C t dy ho si) s := by
  have e : lr_gdl0 C t dy ho si 1 = C 1 := lr_gdl0_o (by omega)
  unfold lr_num1
  rw [e]
  unfold lr_gdl0
  funext j
  unfold upd
  repeat' split
  all_goals first | rfl | omega
theorem lr_num1_dls {dy : Int32} {ho si : Nat → Int32} {s : Nat} : ∀ (S : List Nat) (C : Nat → Int32), lr_dls dy ho si S (lr_num1 C s) = lr_num1 (lr_dls dy ho si S C) s := by
  intro S
  induction S with
  | nil => intro C; rfl
  | cons t S ih => intro C; simp only [lr_dls]; rw [lr_num1_gdl0, ih]
theorem lr_gdel_num1 {A : Nat → Int32} {s : Nat} {dy ho si : Int32} (h1 : A 1 = nI (lr_n A 1)) : lr_gdel A s dy ho si = lr_num1 (lr_gdl0 A s dy ho si) s := by
  have e : lr_gdl0 A s dy ho si 1 = A 1 := lr_gdl0_o (by omega)
  unfold lr_num1; rw [e, h1, nI_1]; rfl
theorem lr_gdels_nums {dy : Int32} {ho si : Nat → Int32} : ∀ (S : List Nat) (A : Nat → Int32) (d : Nat), A 1 = nI d → d + S.length < 2 ^ 31 → lr_gdels dy ho si S A = lr_nums (lr_dls dy ho si S A) S := by
  intro S
  induction S with
  | nil => intro A d _ _; rfl
  | cons s S ih =>
    intro A d h1 hd
    rw [List.length_cons] at hd
    simp only [lr_gdels, lr_dls, lr_nums]
    have hn : lr_n A 1 = d := by unfold lr_n; rw [h1]; exact nI_clamp (by omega)
    have e1 : lr_gdel A s dy (ho s) (si s) = lr_num1 (lr_gdl0 A s dy (ho s) (si s)) s := lr_gdel_num1 (by rw [hn]; exact h1)
    rw [e1, ih _ (d + 1) (by unfold lr_num1; rw [upd_eq, lr_gdl0_o (by omega), h1, nI_1]) (by omega), lr_num1_dls]
