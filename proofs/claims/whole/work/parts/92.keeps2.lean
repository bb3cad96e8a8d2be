/-! each operation's new row is good -/
theorem lr_in_nat {x : Int32} {lo hi : Nat} (hlo : lo < 2 ^ 31) (hhi : hi < 2 ^ 31) (h : lr_in x (nI lo) (nI hi) = true) : ∃ a, x = nI a ∧ lo ≤ a ∧ a ≤ hi := by
  unfold lr_in at h
  simp only [Bool.and_eq_true, Bool.not_eq_true', decide_eq_false_iff_not] at h
  have h0 : ¬ x < 0 := fun c => h.1 (by
    rcases Nat.eq_zero_or_pos lo with e | e
    · rw [e]; exact c
    · exact Int32.lt_trans c (nI_gt00 e hlo))
  obtain ⟨a, ha, rfl⟩ := nI_of h0
  exact ⟨a, rfl, Nat.not_lt.mp fun c => h.1 (nI_lt c hlo), Nat.not_lt.mp fun c => h.2 (nI_lt c ha)⟩
theorem lr_dys_nat {z u : Int32} (h : lr_dys z u = true) : ∃ a b, z = nI a ∧ u = nI b ∧ a ≤ b ∧ b ≤ 365 := by
  unfold lr_dys lr_in at h
  simp only [Bool.and_eq_true, Bool.not_eq_true', decide_eq_false_iff_not] at h
  obtain ⟨⟨h1, h2⟩, h3⟩ := h
  obtain ⟨a, ha, rfl⟩ := nI_of h1
  have hu : ¬ u < 0 := fun c => h2 (by
    rcases Nat.eq_zero_or_pos a with e | e
    · rw [e]; exact c
    · exact Int32.lt_trans c (nI_gt00 e ha))
  obtain ⟨b, hb, rfl⟩ := nI_of hu
  exact ⟨a, b, rfl, rfl, Nat.not_lt.mp fun c => h2 (nI_lt c ha), Nat.not_lt.mp fun c => h3 (nI_lt (a := 365) c hb)⟩
/-- an I row: all but the blocks that moved -/
theorem lr_I.mk2 {g g2 : Nat → Int32} (hI : lr_I g) (hG2 : lr_G g2) (hX2 : lr_X g2) (hH2 : lr_H g2) (h1 : g2 1 = g 1) (hl : ∀ x, 289 ≤ x → x < 620 → g2 x = g x) : lr_I g2 :=
  ⟨hG2, hX2, hH2, hI.2.2.2.1.cg h1 (lr_ml hI.1) hl, hI.2.2.2.2.cg (lr_ml hI.1) hl⟩
theorem lr_I.h {g : Nat → Int32} (hI : lr_I g) {st nu : Int32} (ho : lr_hok g st nu = true) (hn : lr_n g 2 < 16) : lr_I (lr_gX3_add g st nu) := by
  have hG := hI.1
  unfold lr_hok at ho
  simp only [Bool.and_eq_true, Bool.not_eq_true'] at ho
  obtain ⟨⟨h1, h2⟩, h3⟩ := ho
  obtain ⟨a, ea, -, a4⟩ := lr_in_nat (lo := 0) (hi := 4) (by decide) (by decide) h1
  obtain ⟨b, eb, b1, b9⟩ := lr_in_nat (lo := 1) (hi := 99) (by decide) (by decide) h2
  have u : ∀ x, x ≠ 2 → x ≠ 3 + 2 * lr_n g 2 → x ≠ 4 + 2 * lr_n g 2 → lr_gX3_add g st nu x = g x := fun x q1 q2 q3 => by unfold lr_gX3_add; rw [upd_ne q1, upd_ne q3, upd_ne q2]
  have u2 : lr_gX3_add g st nu 2 = nI (lr_n g 2 + 1) := by unfold lr_gX3_add; rw [upd_eq]
  have us : lr_gX3_add g st nu (3 + 2 * lr_n g 2) = st := by unfold lr_gX3_add; rw [upd_ne (by omega), upd_ne (by omega), upd_eq]
  have un : lr_gX3_add g st nu (4 + 2 * lr_n g 2) = nu := by unfold lr_gX3_add; rw [upd_ne (by omega), upd_eq]
  have e2 : lr_n (lr_gX3_add g st nu) 2 = lr_n g 2 + 1 := by show (lr_gX3_add g st nu 2).toNatClampNeg = _; rw [u2, nI_clamp (by omega)]
  have en : ∀ x, 35 ≤ x → lr_n (lr_gX3_add g st nu) x = lr_n g x := fun x hx => by unfold lr_n; rw [u x (by omega) (by omega) (by omega)]
  have hG2 : lr_G (lr_gX3_add g st nu) := hG.of (by omega) (by rw [en 35 (by omega)]; exact Nat.le_refl _) (fun x hx => u x (by omega) (by omega) (by omega)) (Or.inr ⟨⟨by rw [e2, u2], by omega⟩, fun i hi => by
    rw [e2] at hi
    by_cases e : i = lr_n g 2
    · rw [e, us, un, ea, eb]; exact ⟨a, b, rfl, a4, rfl, b1, b9⟩
    · rw [u _ (by omega) (by omega) (by omega), u _ (by omega) (by omega) (by omega)]; exact hG.2.2.2.2.2.2.2.2.1 i (by omega)⟩) (Or.inl fun x _ _ => u x (by omega) (by omega) (by omega)) (Or.inl fun x _ _ => u x (by omega) (by omega) (by omega)) (Or.inl fun x _ _ => u x (by omega) (by omega) (by omega)) (by rw [en 228 (by omega), u 228 (by omega) (by omega) (by omega)]; exact hG.2.2.2.2.2.2.1) (fun x _ _ => u x (by omega) (by omega) (by omega))
  refine hI.mk2 hG2 (hI.2.1.cg hG (fun s d => lr_ld_cg3 (lr_mr hG) (fun x _ _ => u x (by omega) (by omega) (by omega)) 1 s d) (by omega)) (fun i j hi hj => ?_) (u 1 (by omega) (by omega) (by omega)) (fun x _ _ => u x (by omega) (by omega) (by omega))
  rw [e2] at hi hj
  have hno : ∀ i, i < lr_n g 2 → ¬ (g (3 + 2 * i) = st ∧ g (4 + 2 * i) = nu) := fun i hi c => by
    have q : lr_hex g st nu = true := (lr_any_iff _ _).mpr ⟨i, Nat.zero_le _, by omega, by rw [decide_eq_true c.1, decide_eq_true c.2]; rfl⟩
    rw [q] at h3; exact absurd h3 (by decide)
  by_cases ei : i = lr_n g 2
  · by_cases ej : j = lr_n g 2
    · intro _ _; omega
    · rw [ei, us, un, u _ (by omega) (by omega) (by omega), u _ (by omega) (by omega) (by omega)]
      intro q1 q2; exact absurd ⟨q1.symm, q2.symm⟩ (hno j (by omega))
  · by_cases ej : j = lr_n g 2
    · rw [ej, us, un, u _ (by omega) (by omega) (by omega), u _ (by omega) (by omega) (by omega)]
      intro q1 q2; exact absurd ⟨q1, q2⟩ (hno i (by omega))
    · rw [u _ (by omega) (by omega) (by omega), u _ (by omega) (by omega) (by omega), u _ (by omega) (by omega) (by omega), u _ (by omega) (by omega) (by omega)]
      exact hI.2.2.1 i j (by omega) (by omega)
theorem lr_I.p {g : Nat → Int32} (hI : lr_I g) {h : Nat} (hh : h < lr_n g 2) (hn : lr_n g 35 < 20) : lr_I (lr_gX6_add g (nI h)) := by
  have hG := hI.1
  have u : ∀ x, (x < 35 ∨ 116 ≤ x) → lr_gX6_add g (nI h) x = g x := fun x q => by unfold lr_gX6_add; rw [upd_ne (by omega), upd_ne (by omega), upd_ne (by omega), upd_ne (by omega), upd_ne (by omega)]
  have u2 : lr_gX6_add g (nI h) 35 = nI (lr_n g 35 + 1) := by unfold lr_gX6_add; rw [upd_eq]
  have e2 : lr_n (lr_gX6_add g (nI h)) 35 = lr_n g 35 + 1 := by show (lr_gX6_add g (nI h) 35).toNatClampNeg = _; rw [u2, nI_clamp (by omega)]
  have en : ∀ x, (x < 35 ∨ 116 ≤ x) → lr_n (lr_gX6_add g (nI h)) x = lr_n g x := fun x hx => by unfold lr_n; rw [u x hx]
  have hG2 : lr_G (lr_gX6_add g (nI h)) := hG.of (by rw [en 2 (by omega)]; exact Nat.le_refl _) (by omega) (fun x hx => u x (by omega)) (Or.inl fun x _ _ => u x (by omega)) (Or.inr ⟨⟨by rw [e2, u2], by omega⟩, fun i hi => by
    rw [e2] at hi
    rw [en 2 (by omega)]
    by_cases e : i = lr_n g 35
    · rw [e, show lr_gX6_add g (nI h) (36 + 4 * lr_n g 35) = nI h from by unfold lr_gX6_add; rw [upd_ne (by omega), upd_ne (by omega), upd_ne (by omega), upd_ne (by omega), upd_eq], show lr_gX6_add g (nI h) (37 + 4 * lr_n g 35) = -1 from by unfold lr_gX6_add; rw [upd_ne (by omega), upd_ne (by omega), upd_ne (by omega), upd_eq], show lr_gX6_add g (nI h) (38 + 4 * lr_n g 35) = 9 from by unfold lr_gX6_add; rw [upd_ne (by omega), upd_ne (by omega), upd_eq]]
      exact ⟨⟨h, rfl, hh⟩, ⟨0, rfl, by omega⟩, ⟨9, rfl, by omega⟩⟩
    · have v : ∀ c, c < 3 → lr_gX6_add g (nI h) (36 + c + 4 * i) = g (36 + c + 4 * i) := fun c hc => by unfold lr_gX6_add; rw [upd_ne (by omega), upd_ne (by omega), upd_ne (by omega), upd_ne (by omega), upd_ne (by omega)]
      have v0 := v 0 (by omega); have v1 := v 1 (by omega); have v2 := v 2 (by omega)
      simp only [Nat.reduceAdd] at v0 v1 v2
      rw [v0, v1, v2]; exact hG.2.2.2.2.2.2.2.2.2.1 i (by omega)⟩) (Or.inl fun x _ _ => u x (by omega)) (Or.inl fun x _ _ => u x (by omega)) (by rw [en 228 (by omega), u 228 (by omega)]; exact hG.2.2.2.2.2.2.1) (fun x _ _ => u x (by omega))
  exact hI.mk2 hG2 (hI.2.1.cg hG (fun s d => lr_ld_cg3 (lr_mr hG) (fun x _ _ => u x (by omega)) 1 s d) (by rw [en 2 (by omega)]; exact lr_mh hG)) (hI.2.2.1.cg (lr_mh hG) (fun x _ _ => u x (by omega))) (u 1 (by omega)) (fun x _ _ => u x (by omega))
theorem lr_I.w {g : Nat → Int32} (hI : lr_I g) {x1 x2 x3 x4 x5 : Int32} (hw : lr_wok x1 x2 x3 x4 x5 = true) (hn : lr_n g 116 < 10) : lr_I (lr_gX8_add g x1 x2 x3 x4 x5) := by
  have hG := hI.1
  obtain ⟨-, h2, h3, -⟩ := lr_wok_t hw
  obtain ⟨a, ea, -, a2⟩ := lr_in_nat (lo := 0) (hi := 2) (by decide) (by decide) h2
  obtain ⟨b, eb, -, b1⟩ := lr_in_nat (lo := 0) (hi := 1) (by decide) (by decide) h3
  have u : ∀ x, (x < 116 ∨ 167 ≤ x) → lr_gX8_add g x1 x2 x3 x4 x5 x = g x := fun x q => by unfold lr_gX8_add; rw [upd_ne (by omega), upd_ne (by omega), upd_ne (by omega), upd_ne (by omega), upd_ne (by omega), upd_ne (by omega)]
  have u2 : lr_gX8_add g x1 x2 x3 x4 x5 116 = nI (lr_n g 116 + 1) := by unfold lr_gX8_add; rw [upd_eq]
  have e2 : lr_n (lr_gX8_add g x1 x2 x3 x4 x5) 116 = lr_n g 116 + 1 := by show (lr_gX8_add g x1 x2 x3 x4 x5 116).toNatClampNeg = _; rw [u2, nI_clamp (by omega)]
  have en : ∀ x, (x < 116 ∨ 167 ≤ x) → lr_n (lr_gX8_add g x1 x2 x3 x4 x5) x = lr_n g x := fun x hx => by unfold lr_n; rw [u x hx]
  have hG2 : lr_G (lr_gX8_add g x1 x2 x3 x4 x5) := hG.of (by rw [en 2 (by omega)]; exact Nat.le_refl _) (by rw [en 35 (by omega)]; exact Nat.le_refl _) (fun x hx => u x (by omega)) (Or.inl fun x _ _ => u x (by omega)) (Or.inl fun x _ _ => u x (by omega)) (Or.inr ⟨⟨by rw [e2, u2], by omega⟩, fun i hi => by
    rw [e2] at hi
    by_cases e : i = lr_n g 116
    · rw [e, show lr_gX8_add g x1 x2 x3 x4 x5 (118 + 5 * lr_n g 116) = x2 from by unfold lr_gX8_add; rw [upd_ne (by omega), upd_ne (by omega), upd_ne (by omega), upd_ne (by omega), upd_eq], show lr_gX8_add g x1 x2 x3 x4 x5 (119 + 5 * lr_n g 116) = x3 from by unfold lr_gX8_add; rw [upd_ne (by omega), upd_ne (by omega), upd_ne (by omega), upd_eq]]
      exact ⟨⟨a, ea, a2⟩, ⟨b, eb, b1⟩⟩
    · have v : ∀ c, c < 2 → lr_gX8_add g x1 x2 x3 x4 x5 (118 + c + 5 * i) = g (118 + c + 5 * i) := fun c hc => by unfold lr_gX8_add; rw [upd_ne (by omega), upd_ne (by omega), upd_ne (by omega), upd_ne (by omega), upd_ne (by omega), upd_ne (by omega)]
      have v0 := v 0 (by omega); have v1 := v 1 (by omega)
      simp only [Nat.reduceAdd] at v0 v1
      rw [v0, v1]; exact hG.2.2.2.2.2.2.2.2.2.2.1 i (by omega)⟩) (Or.inl fun x _ _ => u x (by omega)) (by rw [en 228 (by omega), u 228 (by omega)]; exact hG.2.2.2.2.2.2.1) (fun x _ _ => u x (by omega))
  exact hI.mk2 hG2 (hI.2.1.cg hG (fun s d => lr_ld_cg3 (lr_mr hG) (fun x _ _ => u x (by omega)) 1 s d) (by rw [en 2 (by omega)]; exact lr_mh hG)) (hI.2.2.1.cg (lr_mh hG) (fun x _ _ => u x (by omega))) (u 1 (by omega)) (fun x _ _ => u x (by omega))
theorem lr_gX7_o {g : Nat → Int32} {ki so ta fi la : Int32} (hn : lr_n g 167 < 12) {x : Nat} (q : x < 167 ∨ 228 ≤ x) : lr_gX7_add g ki so ta fi la x = g x := by unfold lr_gX7_add; rw [upd_ne (by omega), upd_ne (by omega), upd_ne (by omega), upd_ne (by omega), upd_ne (by omega), upd_ne (by omega)]
theorem lr_gX7_n {g : Nat → Int32} {ki so ta fi la : Int32} (hn : lr_n g 167 < 12) : lr_n (lr_gX7_add g ki so ta fi la) 167 = lr_n g 167 + 1 := by
  show (lr_gX7_add g ki so ta fi la 167).toNatClampNeg = _
  rw [show lr_gX7_add g ki so ta fi la 167 = nI (lr_n g 167 + 1) from by unfold lr_gX7_add; rw [upd_eq], nI_clamp (by omega)]
theorem lr_gX7_i {g : Nat → Int32} {ki so ta fi la : Int32} {c i : Nat} (hc : c < 5) (hi : i < lr_n g 167) : lr_gX7_add g ki so ta fi la (168 + c + 5 * i) = g (168 + c + 5 * i) := by unfold lr_gX7_add; rw [upd_ne (by omega), upd_ne (by omega), upd_ne (by omega), upd_ne (by omega), upd_ne (by omega), upd_ne (by omega)]
/-- a redirect more: the row is good -/
theorem lr_G.r {g : Nat → Int32} (hG : lr_G g) {k s t : Nat} {z v1 : Int32} (hk : k ≤ 1) (hs : s < 20) (hs2 : k = 1 → s < lr_n g 2) (ht : t < lr_n g 2) (hl : lr_dys z v1 = true) (hn : lr_n g 167 < 12) : lr_G (lr_gX7_add g (nI k) (nI s) (nI t) z v1) := by
  obtain ⟨a, b, ea, eb, hab, hb⟩ := lr_dys_nat hl
  have e2 := lr_gX7_n (g := g) (ki := nI k) (so := nI s) (ta := nI t) (fi := z) (la := v1) hn
  have u : ∀ x, (x < 167 ∨ 228 ≤ x) → lr_gX7_add g (nI k) (nI s) (nI t) z v1 x = g x := fun x q => lr_gX7_o hn q
  have en : ∀ x, (x < 167 ∨ 228 ≤ x) → lr_n (lr_gX7_add g (nI k) (nI s) (nI t) z v1) x = lr_n g x := fun x hx => by unfold lr_n; rw [u x hx]
  refine hG.of (by rw [en 2 (by omega)]; exact Nat.le_refl _) (by rw [en 35 (by omega)]; exact Nat.le_refl _) (fun x hx => u x (by omega)) (Or.inl fun x _ _ => u x (by omega)) (Or.inl fun x _ _ => u x (by omega)) (Or.inl fun x _ _ => u x (by omega)) (Or.inr ⟨⟨by rw [e2]; unfold lr_gX7_add; rw [upd_eq], by omega⟩, fun i hi => ?_⟩) (by rw [en 228 (by omega), u 228 (by omega)]; exact hG.2.2.2.2.2.2.1) (fun x _ _ => u x (by omega))
  rw [e2] at hi
  rw [en 2 (by omega)]
  by_cases e : i = lr_n g 167
  · rw [e, show lr_gX7_add g (nI k) (nI s) (nI t) z v1 (168 + 5 * lr_n g 167) = nI k from by unfold lr_gX7_add; rw [upd_ne (by omega), upd_ne (by omega), upd_ne (by omega), upd_ne (by omega), upd_ne (by omega), upd_eq], show lr_gX7_add g (nI k) (nI s) (nI t) z v1 (169 + 5 * lr_n g 167) = nI s from by unfold lr_gX7_add; rw [upd_ne (by omega), upd_ne (by omega), upd_ne (by omega), upd_ne (by omega), upd_eq], show lr_gX7_add g (nI k) (nI s) (nI t) z v1 (170 + 5 * lr_n g 167) = nI t from by unfold lr_gX7_add; rw [upd_ne (by omega), upd_ne (by omega), upd_ne (by omega), upd_eq], show lr_gX7_add g (nI k) (nI s) (nI t) z v1 (171 + 5 * lr_n g 167) = z from by unfold lr_gX7_add; rw [upd_ne (by omega), upd_ne (by omega), upd_eq], show lr_gX7_add g (nI k) (nI s) (nI t) z v1 (172 + 5 * lr_n g 167) = v1 from by unfold lr_gX7_add; rw [upd_ne (by omega), upd_eq]]
    exact ⟨⟨k, rfl, hk⟩, ⟨s, rfl, hs, fun c => hs2 ((nI_eq (b := 1) (by omega) (by omega)).mp c)⟩, ⟨t, rfl, ht⟩, ⟨a, b, ea, eb, hab, hb⟩⟩
  · have v := fun c (hc : c < 5) => lr_gX7_i (g := g) (ki := nI k) (so := nI s) (ta := nI t) (fi := z) (la := v1) hc (show i < lr_n g 167 by omega)
    have v0 := v 0 (by omega); have v1' := v 1 (by omega); have v2 := v 2 (by omega); have v3 := v 3 (by omega); have v4 := v 4 (by omega)
    simp only [Nat.reduceAdd] at v0 v1' v2 v3 v4
    rw [v0, v1', v2, v3, v4]; exact hG.2.2.2.2.2.2.2.2.2.2.2.1 i (by omega)
theorem lr_I.r {g : Nat → Int32} (hI : lr_I g) {k s t : Nat} {z v1 : Int32} (hn : lr_n g 167 < 12) (hG2 : lr_G (lr_gX7_add g (nI k) (nI s) (nI t) z v1)) (hX2 : lr_X (lr_gX7_add g (nI k) (nI s) (nI t) z v1)) : lr_I (lr_gX7_add g (nI k) (nI s) (nI t) z v1) :=
  hI.mk2 hG2 hX2 (hI.2.2.1.cg (lr_mh hI.1) (fun x _ _ => lr_gX7_o hn (by omega))) (lr_gX7_o hn (by omega)) (fun x _ _ => lr_gX7_o hn (by omega))
/-- a person's redirect leads no house round -/
theorem lr_X.r0 {g : Nat → Int32} (hI : lr_I g) {s t : Nat} {z v1 : Int32} (hn : lr_n g 167 < 12) : lr_X (lr_gX7_add g (nI 0) (nI s) (nI t) z v1) := by
  have hG := hI.1
  refine hI.2.1.cg hG (fun so d => ?_) (by unfold lr_n; rw [lr_gX7_o hn (by omega)]; exact lr_mh hG)
  unfold lr_ld
  rw [lr_gX7_n hn]
  simp only [lr_tg]
  have e : lr_rc (lr_gX7_add g (nI 0) (nI s) (nI t) z v1) 1 so d (lr_n g 167) = false := by
    unfold lr_rc
    rw [show lr_gX7_add g (nI 0) (nI s) (nI t) z v1 (168 + 5 * lr_n g 167) = nI 0 from by unfold lr_gX7_add; rw [upd_ne (by omega), upd_ne (by omega), upd_ne (by omega), upd_ne (by omega), upd_ne (by omega), upd_eq], decide_eq_false (by decide), Bool.false_and]
  rw [e, if_neg (by decide)]
  refine lr_tg_cg _ (fun i hi => ?_)
  have v := fun c (hc : c < 5) => lr_gX7_i (g := g) (ki := nI 0) (so := nI s) (ta := nI t) (fi := z) (la := v1) hc hi
  have v0 := v 0 (by omega); have v1' := v 1 (by omega); have v2 := v 2 (by omega); have v3 := v 3 (by omega); have v4 := v 4 (by omega)
  simp only [Nat.reduceAdd] at v0 v1' v2 v3 v4
  exact ⟨by unfold lr_rc; rw [v0, v1', v3, v4], v2⟩
