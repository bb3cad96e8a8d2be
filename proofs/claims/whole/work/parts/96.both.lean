/-! both sides together: contracts weakened; the past and the history; what holds between two calls -/
theorem pm_CT.imp {mi : pm_Mi} {av : List Value} {μ : pm_Mm} {P P' : Option Value → pm_Mm → Prop} {X X' : String → pm_Mm → Prop} (h : pm_CT mi av μ P X) (hP : ∀ v M, P v M → P' v M) (hX : ∀ E M, X E M → X' E M) : pm_CT mi av μ P' X' := by
  intro l D tc ad sz htr
  have h1 := h l D tc ad sz htr
  unfold vx_Met at h1 ⊢
  intro p e ha hcl hk s m args below hf hap hp hK
  obtain ⟨k, o, h2, h3, h4, h5⟩ := h1 p e ha hcl hk s m args below hf hap hp hK
  refine ⟨k, o, h2, h3, h4, ?_⟩
  rcases h5 with ⟨⟨⟨vq, μq, e1, e2, e3⟩, e4⟩, h6⟩ | ⟨q, e0, E, ce, L, ⟨⟨μq, e2, e3⟩, e4⟩, e5⟩
  · exact Or.inl ⟨⟨⟨vq, μq, e1, hP _ _ e2, e3⟩, e4⟩, h6⟩
  · exact Or.inr ⟨q, e0, E, ce, L, ⟨⟨μq, hX _ _ e2, e3⟩, e4⟩, e5⟩
/-- the model's past: c rows, the oldest first -/
def lr_Ps (f : Nat → Nat → Int32) (c : Nat) (F : Nat → Nat → Int32) : Prop := f 47 5 = nI c ∧ ∀ k, k < c → ∀ x, x < 620 → f 51 (620 * k + x) = F k x
theorem lr_Ps.fr {f f2 : Nat → Nat → Int32} {c : Nat} {F : Nat → Nat → Int32} (h : lr_Ps f c F) (h5 : f2 47 5 = f 47 5) (h51 : f2 51 = f 51) : lr_Ps f2 c F := ⟨h5.trans h.1, fun k hk x hx => by rw [h51]; exact h.2 k hk x hx⟩
theorem lr_chg_ps {μ : pm_Mm} {S c : Nat} {F : Nat → Nat → Int32} (h : lr_Ps μ.1 c F) (hc : c ≤ 8) : lr_Ps (lr_chg μ S).1 (min (c + 1) 8) (lr_psh c F (μ.1 S)) := by
  obtain ⟨h5, hF⟩ := h
  unfold lr_chg lr_psh
  by_cases e : c = 8
  · subst e
    rw [if_pos (show μ.1 47 5 = 8 from h5)]
    refine ⟨by rw [pm_set_at]; unfold upd; simp; rfl, fun k hk x hx => ?_⟩
    rw [pm_set_off (by decide), pm_row_at]
    show lr_cpy (μ.1 S) (lr_sft (μ.1 51) 4340) 0 4340 620 (620 * k + x) = (if 8 = 8 then if k < 7 then F (k + 1) else μ.1 S else if k = 8 then μ.1 S else F k) x
    rw [if_pos rfl]
    unfold lr_cpy
    by_cases e7 : k < 7
    · rw [if_neg (show ¬ (4340 ≤ 620 * k + x ∧ 620 * k + x < 4340 + 620) by omega), if_pos e7]
      unfold lr_sft
      rw [if_pos (by omega), show 620 * k + x + 620 = 620 * (k + 1) + x by omega]
      exact hF (k + 1) (by omega) x hx
    · rw [if_pos (show 4340 ≤ 620 * k + x ∧ 620 * k + x < 4340 + 620 by omega), if_neg e7, show 0 + (620 * k + x - 4340) = x by omega]
  · have n8 : ¬ μ.1 47 5 = 8 := by
      rw [h5]; intro hh
      have q : (nI c).toNatClampNeg = (8 : Int32).toNatClampNeg := by rw [hh]
      rw [nI_clamp (by omega), show (8 : Int32).toNatClampNeg = 8 from by decide] at q
      omega
    have tn : (μ.1 47 5).toNatClampNeg = c := by rw [h5]; exact nI_clamp (by omega)
    rw [if_neg n8, tn]
    refine ⟨by rw [pm_set_at]; unfold upd; rw [if_pos rfl, h5, show min (c + 1) 8 = c + 1 by omega]; exact (Int32.ofNat_add c 1).symm, fun k hk x hx => ?_⟩
    rw [pm_set_off (by decide), pm_row_at]
    show lr_cpy (μ.1 S) (μ.1 51) 0 (620 * c) 620 (620 * k + x) = (if c = 8 then if k < 7 then F (k + 1) else μ.1 S else if k = c then μ.1 S else F k) x
    rw [if_neg e]
    unfold lr_cpy
    by_cases e7 : k = c
    · rw [if_pos (show 620 * c ≤ 620 * k + x ∧ 620 * k + x < 620 * c + 620 by omega), if_pos e7, show 0 + (620 * k + x - 620 * c) = x by omega]
    · rw [if_neg (show ¬ (620 * c ≤ 620 * k + x ∧ 620 * k + x < 620 * c + 620) by omega), if_neg e7]
      exact hF k (by omega) x hx
theorem lr_Ps.z {f : Nat → Nat → Int32} {F : Nat → Nat → Int32} (h : f 47 5 = 0) : lr_Ps f 0 F := ⟨h, fun k hk => absurd hk (by omega)⟩
theorem lr_Rel.cg {f : Nat → Nat → Int32} {b : Nat} {g g2 : Nat → Int32} (hR : lr_Rel f b g) (hB : lr_B g) (e : ∀ x, x < 620 → g2 x = g x) : lr_Rel f b g2 := by
  obtain ⟨b1, b2, b3, b4, b5, b6⟩ := hB
  have q1 : lr_n g2 2 = lr_n g 2 := by unfold lr_n; rw [e 2 (by omega)]
  have q2 : lr_n g2 35 = lr_n g 35 := by unfold lr_n; rw [e 35 (by omega)]
  have q3 : lr_n g2 116 = lr_n g 116 := by unfold lr_n; rw [e 116 (by omega)]
  have q4 : lr_n g2 167 = lr_n g 167 := by unfold lr_n; rw [e 167 (by omega)]
  have q5 : lr_n g2 228 = lr_n g 228 := by unfold lr_n; rw [e 228 (by omega)]
  have q6 : lr_n g2 289 = lr_n g 289 := by unfold lr_n; rw [e 289 (by omega)]
  obtain ⟨h0, ⟨h1, h2⟩, ⟨h3, h4⟩, ⟨h5, h6⟩, ⟨h7, h8⟩, ⟨h9, h10⟩, ⟨h11, h12, h13, h14⟩⟩ := hR
  refine ⟨by rw [e 0 (by omega)]; exact h0, ⟨by rw [e 2 (by omega)]; exact h1, fun i hi => ?_⟩, ⟨by rw [e 35 (by omega)]; exact h3, fun i hi => ?_⟩, ⟨by rw [e 116 (by omega)]; exact h5, fun i hi => ?_⟩, ⟨by rw [e 167 (by omega)]; exact h7, fun i hi => ?_⟩, ⟨by rw [e 228 (by omega)]; exact h9, fun i hi => ?_⟩, ⟨by rw [e 1 (by omega)]; exact h11, by rw [e 289 (by omega)]; exact h12, fun i hi => ?_, fun i d hi hd h30 => ?_⟩⟩
  · rw [q1] at hi; rw [e (3 + 2 * i) (by omega), e (4 + 2 * i) (by omega)]; exact h2 i hi
  · rw [q2] at hi; rw [e (36 + 4 * i) (by omega), e (37 + 4 * i) (by omega), e (38 + 4 * i) (by omega), e (39 + 4 * i) (by omega)]; exact h4 i hi
  · rw [q3] at hi; rw [e (117 + 5 * i) (by omega), e (118 + 5 * i) (by omega), e (119 + 5 * i) (by omega), e (120 + 5 * i) (by omega), e (121 + 5 * i) (by omega)]; exact h6 i hi
  · rw [q4] at hi; rw [e (168 + 5 * i) (by omega), e (169 + 5 * i) (by omega), e (170 + 5 * i) (by omega), e (171 + 5 * i) (by omega), e (172 + 5 * i) (by omega)]; exact h8 i hi
  · rw [q5] at hi; rw [e (229 + 3 * i) (by omega), e (230 + 3 * i) (by omega), e (231 + 3 * i) (by omega)]; exact h10 i hi
  · rw [q6] at hi; rw [e (290 + 11 * i) (by omega), e (291 + 11 * i) (by omega), e (292 + 11 * i) (by omega), e (293 + 11 * i) (by omega), e (294 + 11 * i) (by omega), e (295 + 11 * i) (by omega), e (296 + 11 * i) (by omega), e (297 + 11 * i) (by omega), e (298 + 11 * i) (by omega), e (299 + 11 * i) (by omega), e (300 + 11 * i) (by omega)]; exact h13 i hi
  · rw [q6] at hi; rw [e (300 + 11 * i) (by omega)] at hd; exact h14 i d hi hd h30
/-- snapshot, fault, reason and text: the class's and the model's -/
def lr_Vs (f : Nat → Nat → Int32) : Prop := (f 0 3 = 0 ∧ f 47 3 = 0) ∨ (f 0 3 = 1 ∧ f 47 3 = 1 ∧ lr_Rel f 57 (f 49) ∧ lr_I (f 49))
def lr_Vr (f : Nat → Nat → Int32) : Prop := (f 47 6 = 0 ∧ f 0 6 = -1) ∨ (¬ f 47 6 = 0 ∧ f 0 6 = f 47 6 ∧ ¬ f 0 6 = -1)
def lr_Vt (f : Nat → Nat → Int32) : Prop := ∃ n, n ≤ 40 ∧ f 40 0 = nI n ∧ f 47 11 = nI n ∧ ∀ i, i < n → f 44 i = f 53 i
/-- what holds between two calls -/
def lr_Vv (f : Nat → Nat → Int32) (g : Nat → Int32) (c n : Nat) (F : Nat → Nat → Int32) : Prop := f 48 = g ∧ lr_I g ∧ lr_Rel f 1 g ∧ lr_Hs f c n F ∧ lr_Ps f c F ∧ (∀ k, k < c → lr_I (F k)) ∧ lr_Vs f ∧ f 0 5 = f 47 13 ∧ lr_Vr f ∧ lr_Vt f
def lr_V (f : Nat → Nat → Int32) : Prop := ∃ g c n F, lr_Vv f g c n F
theorem lr_Vs.fr {f f2 : Nat → Nat → Int32} (h : lr_Vs f) (h0 : f2 0 3 = f 0 3) (h47 : f2 47 3 = f 47 3) (h49 : f2 49 = f 49) (h57 : ∀ i, 57 ≤ i → i < 96 → f2 i = f i) : lr_Vs f2 := by
  rcases h with ⟨a, b⟩ | ⟨a, b, d, e⟩
  · exact Or.inl ⟨h0.trans a, h47.trans b⟩
  · exact Or.inr ⟨h0.trans a, h47.trans b, by rw [h49]; exact d.fr (fun i h1 h2 => h57 i h1 (by omega)), by rw [h49]; exact e⟩
theorem lr_Vr.fr {f f2 : Nat → Nat → Int32} (h : lr_Vr f) (h0 : f2 0 6 = f 0 6) (h47 : f2 47 6 = f 47 6) : lr_Vr f2 := by unfold lr_Vr at h ⊢; rw [h0, h47]; exact h
theorem lr_Vt.fr {f f2 : Nat → Nat → Int32} (h : lr_Vt f) (h0 : f2 40 0 = f 40 0) (h47 : f2 47 11 = f 47 11) (h44 : f2 44 = f 44) (h53 : f2 53 = f 53) : lr_Vt f2 := by unfold lr_Vt at h ⊢; rw [h0, h47, h44, h53]; exact h
theorem lr_psh_I {c : Nat} {F : Nat → Nat → Int32} {g : Nat → Int32} (hc : c ≤ 8) (hF : ∀ k, k < c → lr_I (F k)) (hI : lr_I g) : ∀ k, k < min (c + 1) 8 → lr_I (lr_psh c F g k) := by
  intro k hk
  unfold lr_psh
  by_cases e : c = 8
  · rw [if_pos e]
    by_cases e7 : k < 7
    · rw [if_pos e7]; exact hF (k + 1) (by omega)
    · rw [if_neg e7]; exact hI
  · rw [if_neg e]
    by_cases e7 : k = c
    · rw [if_pos e7]; exact hI
    · rw [if_neg e7]; exact hF k (by omega)
/-- both sides took a new row, the old one is kept -/
theorem lr_Vv.put {f f1 f2 : Nat → Nat → Int32} {g g2 : Nat → Int32} {c n : Nat} {F : Nat → Nat → Int32} (h : lr_Vv f g c n F) (hfc : ∀ i, (i = 0 ∨ (39 < i ∧ i < 96 ∧ i ≠ 45)) → f1 i = f i) (hR : lr_Rel f1 1 g2) (hH : lr_Hs f1 (min (c + 1) 8) ((n + 1) % 8) (lr_psh c F g)) (hm : ∀ i, i ≠ 47 → i ≠ 48 → i ≠ 50 → i ≠ 51 → f2 i = f1 i) (hk : ∀ k, k ≠ 5 → k ≠ 7 → f2 47 k = f1 47 k) (hP : lr_Ps f2 (min (c + 1) 8) (lr_psh c F g)) (h48 : f2 48 = g2) (hI : lr_I g2) : lr_Vv f2 g2 (min (c + 1) 8) ((n + 1) % 8) (lr_psh c F g) := by
  obtain ⟨a1, a2, a3, a4, a5, a6, a7, a8, a9, a10⟩ := h
  have o : ∀ i, (i = 0 ∨ (39 < i ∧ i < 96 ∧ i ≠ 45)) → i ≠ 47 → i ≠ 48 → i ≠ 50 → i ≠ 51 → f2 i = f i := fun i h1 h2 h3 h4 h5 => (hm i h2 h3 h4 h5).trans (hfc i h1)
  have o7 : ∀ k, k ≠ 5 → k ≠ 7 → f2 47 k = f 47 k := fun k h1 h2 => by rw [hk k h1 h2, hfc 47 (by omega)]
  refine ⟨h48, hI, hR.fr (fun i h1 h2 => hm i (by omega) (by omega) (by omega) (by omega)), hH.fr (fun i h1 => hm i (by omega) (by omega) (by omega) (by omega)), hP, lr_psh_I a4.1 a6 a2, a7.fr ?_ (o7 3 (by decide) (by decide)) (o 49 (by omega) (by decide) (by decide) (by decide) (by decide)) (fun i h1 h2 => o i (by omega) (by omega) (by omega) (by omega) (by omega)), ?_, a9.fr ?_ (o7 6 (by decide) (by decide)), a10.fr ?_ (o7 11 (by decide) (by decide)) (o 44 (by omega) (by decide) (by decide) (by decide) (by decide)) (o 53 (by omega) (by decide) (by decide) (by decide) (by decide))⟩
  · rw [o 0 (by omega) (by decide) (by decide) (by decide) (by decide)]
  · rw [o 0 (by omega) (by decide) (by decide) (by decide) (by decide), o7 13 (by decide) (by decide)]; exact a8
  · rw [o 0 (by omega) (by decide) (by decide) (by decide) (by decide)]
  · rw [o 40 (by omega) (by decide) (by decide) (by decide) (by decide)]
/-- neither side took a row -/
theorem lr_Vv.same {f f2 : Nat → Nat → Int32} {g : Nat → Int32} {c n : Nat} {F : Nat → Nat → Int32} (h : lr_Vv f g c n F) (hm : ∀ i, i ≠ 47 → i ≠ 50 → f2 i = f i) (hk : ∀ k, k ≠ 7 → f2 47 k = f 47 k) : lr_Vv f2 g c n F := by
  obtain ⟨a1, a2, a3, a4, a5, a6, a7, a8, a9, a10⟩ := h
  refine ⟨(hm 48 (by decide) (by decide)).trans a1, a2, a3.fr (fun i h1 h2 => hm i (by omega) (by omega)), a4.fr (fun i h1 => hm i (by omega) (by omega)), a5.fr (hk 5 (by decide)) (hm 51 (by decide) (by decide)), a6, a7.fr ?_ (hk 3 (by decide)) (hm 49 (by decide) (by decide)) (fun i h1 h2 => hm i (by omega) (by omega)), ?_, a9.fr ?_ (hk 6 (by decide)), a10.fr ?_ (hk 11 (by decide)) (hm 44 (by decide) (by decide)) (hm 53 (by decide) (by decide))⟩
  · rw [hm 0 (by decide) (by decide)]
  · rw [hm 0 (by decide) (by decide), hk 13 (by decide)]; exact a8
  · rw [hm 0 (by decide) (by decide)]
  · rw [hm 40 (by decide) (by decide)]
/-- both sides refuse for the same reason -/
theorem lr_Vv.why {f f2 : Nat → Nat → Int32} {g : Nat → Int32} {c n : Nat} {F : Nat → Nat → Int32} {y : Int32} (h : lr_Vv f g c n F) (hm : ∀ i, i ≠ 0 → i ≠ 47 → i ≠ 50 → f2 i = f i) (hk0 : ∀ k, k ≠ 6 → f2 0 k = f 0 k) (hk : ∀ k, k ≠ 6 → k ≠ 7 → f2 47 k = f 47 k) (e0 : f2 0 6 = y) (e47 : f2 47 6 = y) (hy : ¬ y = 0) (hy1 : ¬ y = -1) : lr_Vv f2 g c n F := by
  obtain ⟨a1, a2, a3, a4, a5, a6, a7, a8, a9, a10⟩ := h
  refine ⟨(hm 48 (by decide) (by decide) (by decide)).trans a1, a2, a3.fr (fun i h1 h2 => hm i (by omega) (by omega) (by omega)), a4.fr (fun i h1 => hm i (by omega) (by omega) (by omega)), a5.fr (hk 5 (by decide) (by decide)) (hm 51 (by decide) (by decide) (by decide)), a6, a7.fr (hk0 3 (by decide)) (hk 3 (by decide) (by decide)) (hm 49 (by decide) (by decide) (by decide)) (fun i h1 h2 => hm i (by omega) (by omega) (by omega)), ?_, Or.inr ⟨by rw [e47]; exact hy, by rw [e0, e47], by rw [e0]; exact hy1⟩, a10.fr ?_ (hk 11 (by decide) (by decide)) (hm 44 (by decide) (by decide) (by decide)) (hm 53 (by decide) (by decide) (by decide))⟩
  · rw [hk0 5 (by decide), hk 13 (by decide) (by decide)]; exact a8
  · rw [hm 40 (by decide) (by decide) (by decide)]
