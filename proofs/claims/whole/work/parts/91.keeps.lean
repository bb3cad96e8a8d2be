/-! each operation keeps a row good -/
theorem lr_G.of {g g2 : Nat → Int32} (hG : lr_G g) (n2 : lr_n g 2 ≤ lr_n g2 2) (n35 : lr_n g 35 ≤ lr_n g2 35) (h01 : ∀ x, x < 2 → g2 x = g x)
    (Hh : (∀ x, 2 ≤ x → x < 35 → g2 x = g x) ∨ ((g2 2 = nI (lr_n g2 2) ∧ lr_n g2 2 ≤ 16) ∧ (∀ i, i < lr_n g2 2 → ∃ a b, g2 (3 + 2 * i) = nI a ∧ a ≤ 4 ∧ g2 (4 + 2 * i) = nI b ∧ 1 ≤ b ∧ b ≤ 99))) (Hp : (∀ x, 35 ≤ x → x < 116 → g2 x = g x) ∨ ((g2 35 = nI (lr_n g2 35) ∧ lr_n g2 35 ≤ 20) ∧ (∀ i, i < lr_n g2 35 → (∃ a, g2 (36 + 4 * i) = nI a ∧ a < lr_n g2 2) ∧ (∃ b, g2 (37 + 4 * i) = nI b - 1 ∧ b ≤ 366) ∧ (∃ c, g2 (38 + 4 * i) = nI c ∧ c ≤ 9)))) (Hw : (∀ x, 116 ≤ x → x < 167 → g2 x = g x) ∨ ((g2 116 = nI (lr_n g2 116) ∧ lr_n g2 116 ≤ 10) ∧ (∀ i, i < lr_n g2 116 → (∃ a, g2 (118 + 5 * i) = nI a ∧ a ≤ 2) ∧ (∃ b, g2 (119 + 5 * i) = nI b ∧ b ≤ 1)))) (Hr : (∀ x, 167 ≤ x → x < 228 → g2 x = g x) ∨ ((g2 167 = nI (lr_n g2 167) ∧ lr_n g2 167 ≤ 12) ∧ (∀ i, i < lr_n g2 167 → (∃ k, g2 (168 + 5 * i) = nI k ∧ k ≤ 1) ∧ (∃ s, g2 (169 + 5 * i) = nI s ∧ s < 20 ∧ (g2 (168 + 5 * i) = 1 → s < lr_n g2 2)) ∧ (∃ t, g2 (170 + 5 * i) = nI t ∧ t < lr_n g2 2) ∧ (∃ a b, g2 (171 + 5 * i) = nI a ∧ g2 (172 + 5 * i) = nI b ∧ a ≤ b ∧ b ≤ 365)))) (Ha : (g2 228 = nI (lr_n g2 228) ∧ lr_n g2 228 ≤ 20)) (Hl : ∀ x, 289 ≤ x → x < 620 → g2 x = g x) : lr_G g2 := by
  have m1 := lr_mh hG; have m2 := lr_mp hG; have m3 := lr_mw hG; have m4 := lr_mr hG; have m6 := lr_ml hG
  obtain ⟨a0, a1, a2, a35, a116, a167, a228, a289, b2, b35, b116, b167, b289⟩ := hG
  have nn : ∀ x, g2 x = g x → lr_n g2 x = lr_n g x := fun x e => by unfold lr_n; rw [e]
  have H1 : (g2 2 = nI (lr_n g2 2) ∧ lr_n g2 2 ≤ 16) ∧ (∀ i, i < lr_n g2 2 → ∃ a b, g2 (3 + 2 * i) = nI a ∧ a ≤ 4 ∧ g2 (4 + 2 * i) = nI b ∧ 1 ≤ b ∧ b ≤ 99) := by
    rcases Hh with q | q
    · have e := nn 2 (q 2 (by omega) (by omega))
      rw [e, q 2 (by omega) (by omega)]
      exact ⟨a2, fun i hi => by rw [q _ (by omega) (by omega), q _ (by omega) (by omega)]; exact b2 i hi⟩
    · exact q
  have H2 : (g2 35 = nI (lr_n g2 35) ∧ lr_n g2 35 ≤ 20) ∧ (∀ i, i < lr_n g2 35 → (∃ a, g2 (36 + 4 * i) = nI a ∧ a < lr_n g2 2) ∧ (∃ b, g2 (37 + 4 * i) = nI b - 1 ∧ b ≤ 366) ∧ (∃ c, g2 (38 + 4 * i) = nI c ∧ c ≤ 9)) := by
    rcases Hp with q | q
    · have e := nn 35 (q 35 (by omega) (by omega))
      rw [e, q 35 (by omega) (by omega)]
      refine ⟨a35, fun i hi => ?_⟩
      rw [q (36 + 4 * i) (by omega) (by omega), q (37 + 4 * i) (by omega) (by omega), q (38 + 4 * i) (by omega) (by omega)]
      obtain ⟨⟨a, x, y⟩, z⟩ := b35 i hi
      exact ⟨⟨a, x, by omega⟩, z⟩
    · exact q
  have H3 : (g2 116 = nI (lr_n g2 116) ∧ lr_n g2 116 ≤ 10) ∧ (∀ i, i < lr_n g2 116 → (∃ a, g2 (118 + 5 * i) = nI a ∧ a ≤ 2) ∧ (∃ b, g2 (119 + 5 * i) = nI b ∧ b ≤ 1)) := by
    rcases Hw with q | q
    · have e := nn 116 (q 116 (by omega) (by omega))
      rw [e, q 116 (by omega) (by omega)]
      exact ⟨a116, fun i hi => by rw [q (118 + 5 * i) (by omega) (by omega), q (119 + 5 * i) (by omega) (by omega)]; exact b116 i hi⟩
    · exact q
  have H4 : (g2 167 = nI (lr_n g2 167) ∧ lr_n g2 167 ≤ 12) ∧ (∀ i, i < lr_n g2 167 → (∃ k, g2 (168 + 5 * i) = nI k ∧ k ≤ 1) ∧ (∃ s, g2 (169 + 5 * i) = nI s ∧ s < 20 ∧ (g2 (168 + 5 * i) = 1 → s < lr_n g2 2)) ∧ (∃ t, g2 (170 + 5 * i) = nI t ∧ t < lr_n g2 2) ∧ (∃ a b, g2 (171 + 5 * i) = nI a ∧ g2 (172 + 5 * i) = nI b ∧ a ≤ b ∧ b ≤ 365)) := by
    rcases Hr with q | q
    · have e := nn 167 (q 167 (by omega) (by omega))
      rw [e, q 167 (by omega) (by omega)]
      refine ⟨a167, fun i hi => ?_⟩
      rw [q (168 + 5 * i) (by omega) (by omega), q (169 + 5 * i) (by omega) (by omega), q (170 + 5 * i) (by omega) (by omega), q (171 + 5 * i) (by omega) (by omega), q (172 + 5 * i) (by omega) (by omega)]
      obtain ⟨k1, ⟨s, k2, k3, k4⟩, ⟨t, k5, k6⟩, k7⟩ := b167 i hi
      exact ⟨k1, ⟨s, k2, k3, fun c => by have := k4 c; omega⟩, ⟨t, k5, by omega⟩, k7⟩
    · exact q
  have e0 := nn 0 (h01 0 (by omega)); have e289 := nn 289 (Hl 289 (by omega) (by omega))
  refine ⟨by rw [e0, h01 0 (by omega)]; exact a0, by rw [nn 1 (h01 1 (by omega)), h01 1 (by omega)]; exact a1, H1.1, H2.1, H3.1, H4.1, Ha, by rw [e289, Hl 289 (by omega) (by omega)]; exact a289, H1.2, H2.2, H3.2, H4.2, fun i hi => ?_⟩
  rw [e289] at hi
  have q : lr_Lc g i := b289 i hi
  have he : lr_Le g g2 i := fun c hc => Hl _ (by omega) (by omega)
  have q0 := he 0 (by omega); have q1 := he 1 (by omega); have q2 := he 2 (by omega); have q3 := he 3 (by omega); have q4 := he 4 (by omega); have q5 := he 5 (by omega); have q6 := he 6 (by omega); have q7 := he 7 (by omega); have q8 := he 8 (by omega); have q9 := he 9 (by omega); have q10 := he 10 (by omega)
  simp only [Nat.reduceAdd] at q0 q1 q2 q3 q4 q5 q6 q7 q8 q9 q10
  unfold lr_Lc at q
  rw [q0, q1, q2, q3, q4, q5, q6, q7, q8, q9, q10, e0]
  obtain ⟨⟨p, x, y⟩, z⟩ := q
  exact ⟨⟨p, x, by omega⟩, z⟩
/-- rows that say the same of redirects -/
theorem lr_ld_cg3 {g g2 : Nat → Int32} (m4 : lr_n g 167 ≤ 12) (h : ∀ x, 167 ≤ x → x < 228 → g2 x = g x) (k s d : Int32) : lr_ld g2 k s d = lr_ld g k s d := by
  unfold lr_ld
  rw [show lr_n g2 167 = lr_n g 167 from by unfold lr_n; rw [h 167 (by omega) (by omega)]]
  refine lr_tg_cg _ (fun i hi => ⟨?_, h _ (by omega) (by omega)⟩)
  unfold lr_rc
  rw [h (168 + 5 * i) (by omega) (by omega), h (169 + 5 * i) (by omega) (by omega), h (171 + 5 * i) (by omega) (by omega), h (172 + 5 * i) (by omega) (by omega)]
theorem lr_on_cg3 {g g2 : Nat → Int32} {d : Int32} (h : ∀ s, lr_ld g2 1 s d = lr_ld g 1 s d) : ∀ n x, lr_on g2 d n x = lr_on g d n x := by
  intro n
  induction n with
  | zero => intro x; rfl
  | succ n ih => intro x; simp only [lr_on]; rw [h, ih]
/-- the same of redirects of houses, not fewer houses: still no round -/
theorem lr_X.cg {g g2 : Nat → Int32} (hG : lr_G g) (hX : lr_X g) (h : ∀ s d, lr_ld g2 1 s d = lr_ld g 1 s d) (hn : lr_n g2 2 ≤ 16) : lr_X g2 := by
  intro d hd
  rw [Bool.eq_false_iff]
  intro c
  obtain ⟨i, -, hi, hi2⟩ := (lr_any_iff _ _).mp c
  have m1 := lr_mh hG
  rw [lr_on_cg3 (fun s => h s (nI d))] at hi2
  by_cases hlt : i < lr_n g 2
  · rw [lr_X_on hG hX hd hlt] at hi2; exact absurd hi2 (by decide)
  · have hl : lr_ld g 1 (nI i) (nI d) = -1 := by
      refine Classical.byContradiction fun q => ?_
      have m4 := lr_mr hG
      rw [← lr_tgo_no g 1 (nI i) (nI d) (by omega)] at q
      obtain ⟨r, hr, -, h1, h2, -⟩ := lr_tgo_src q
      obtain ⟨-, ⟨s, e, s20, hs⟩, -⟩ := hG.2.2.2.2.2.2.2.2.2.2.2.1 r hr
      rw [e] at h2
      have := (nI_eq (by omega) (by omega)).mp h2
      have := hs h1
      omega
    have hm : ∀ n, lr_on g (nI d) n (-1) = -1 := by
      intro n
      cases n with
      | zero => rfl
      | succ n => simp only [lr_on]; rw [if_pos trivial]
    have e : lr_on g (nI d) 17 (nI i) = -1 := by
      show (if nI i = -1 then nI i else lr_on g (nI d) 16 (lr_ld g 1 (nI i) (nI d))) = -1
      rw [if_neg (lr_ne1 (by omega)), hl, hm]
    rw [e] at hi2
    exact absurd hi2 (by decide)
/-- letters and counts the same: deliveries and tries stand -/
theorem lr_C.cg {g g2 : Nat → Int32} (h : lr_C g) (h1 : g2 1 = g 1) (m6 : lr_n g 289 ≤ 30) (hl : ∀ x, 289 ≤ x → x < 620 → g2 x = g x) : lr_C g2 := by
  have e1 : lr_n g2 1 = lr_n g 1 := by unfold lr_n; rw [h1]
  have e2 : lr_n g2 289 = lr_n g 289 := by unfold lr_n; rw [hl 289 (by omega) (by omega)]
  obtain ⟨c1, c2, c3, c4, c5, c6⟩ := h
  unfold lr_C
  rw [e1, e2, h1]
  refine ⟨c1, fun i hi => ?_, fun i d hi => ?_, fun d hd => ?_, fun i j hi hj => ?_, ?_⟩
  · rw [hl (294 + 11 * i) (by omega) (by omega), hl (300 + 11 * i) (by omega) (by omega)]; exact c2 i hi
  · rw [hl (300 + 11 * i) (by omega) (by omega)]; exact c3 i d hi
  · obtain ⟨i, hi, q⟩ := c4 d hd
    exact ⟨i, hi, by rw [hl (300 + 11 * i) (by omega) (by omega)]; exact q⟩
  · rw [hl (294 + 11 * i) (by omega) (by omega), hl (300 + 11 * i) (by omega) (by omega), hl (300 + 11 * j) (by omega) (by omega)]; exact c5 i j hi hj
  · rw [c6]; exact lr_sum_cg _ (fun i hi => by rw [hl (294 + 11 * i) (by omega) (by omega)])
theorem lr_W.cg {g g2 : Nat → Int32} (h : lr_W g) (m6 : lr_n g 289 ≤ 30) (hl : ∀ x, 289 ≤ x → x < 620 → g2 x = g x) : lr_W g2 := by
  have e2 : lr_n g2 289 = lr_n g 289 := by unfold lr_n; rw [hl 289 (by omega) (by omega)]
  intro l hl2
  rw [e2] at hl2
  rw [hl (294 + 11 * l) (by omega) (by omega), hl (297 + 11 * l) (by omega) (by omega)]
  exact h l hl2
theorem lr_H.cg {g g2 : Nat → Int32} (h : lr_H g) (m1 : lr_n g 2 ≤ 16) (hh : ∀ x, 2 ≤ x → x < 35 → g2 x = g x) : lr_H g2 := by
  have e2 : lr_n g2 2 = lr_n g 2 := by unfold lr_n; rw [hh 2 (by omega) (by omega)]
  intro i j hi hj
  rw [e2] at hi hj
  rw [hh _ (by omega) (by omega), hh _ (by omega) (by omega), hh _ (by omega) (by omega), hh _ (by omega) (by omega)]
  exact h i j hi hj
/-- rows equal below 620 are as good -/
theorem lr_I.cg {g g2 : Nat → Int32} (hI : lr_I g) (h : ∀ x, x < 620 → g2 x = g x) : lr_I g2 := by
  obtain ⟨hG, hX, hH, hC, hW⟩ := hI
  have e2 : lr_n g2 2 = lr_n g 2 := by unfold lr_n; rw [h 2 (by omega)]
  have e35 : lr_n g2 35 = lr_n g 35 := by unfold lr_n; rw [h 35 (by omega)]
  have e228 : lr_n g2 228 = lr_n g 228 := by unfold lr_n; rw [h 228 (by omega)]
  refine ⟨hG.of (by omega) (by omega) (fun x hx => h x (by omega)) (Or.inl fun x _ _ => h x (by omega)) (Or.inl fun x _ _ => h x (by omega)) (Or.inl fun x _ _ => h x (by omega)) (Or.inl fun x _ _ => h x (by omega)) (by rw [e228, h 228 (by omega)]; exact hG.2.2.2.2.2.2.1) (fun x _ hx => h x hx), hX.cg hG (fun s d => lr_ld_cg3 (lr_mr hG) (fun x _ _ => h x (by omega)) 1 s d) (by rw [e2]; exact lr_mh hG), hH.cg (lr_mh hG) (fun x _ _ => h x (by omega)), hC.cg (h 1 (by omega)) (lr_ml hG) (fun x _ hx => h x hx), hW.cg (lr_ml hG) (fun x _ hx => h x hx)⟩
