/-! rounds: it is enough to look at days on which a redirect begins or has ended -/
theorem lr_rc_day {g : Nat → Int32} {ki so : Int32} {d r a b : Nat} (ha : g (171 + 5 * r) = nI a) (hb : g (172 + 5 * r) = nI b) (hd : d + 1 < 2 ^ 30) (hab : a < 2 ^ 30) (hbb : b < 2 ^ 30) (h1 : a ≠ d + 1) (h2 : b ≠ d) : lr_rc g ki so (nI (d + 1)) r = lr_rc g ki so (nI d) r := by
  unfold lr_rc
  rw [ha, hb]
  congr 2
  unfold lr_in
  rw [show decide (nI (d + 1) < nI a) = decide (nI d < nI a) from by rw [decide_eq_decide, nJ_lt (by omega) (by omega), nJ_lt (by omega) (by omega)]; omega, show decide (nI b < nI (d + 1)) = decide (nI b < nI d) from by rw [decide_eq_decide, nJ_lt (by omega) (by omega), nJ_lt (by omega) (by omega)]; omega]
theorem lr_ld_cg2 {g : Nat → Int32} {ki so : Int32} {d d2 : Int32} (h : ∀ r, r < lr_n g 167 → lr_rc g ki so d r = lr_rc g ki so d2 r) : lr_ld g ki so d = lr_ld g ki so d2 := by
  unfold lr_ld
  exact lr_tg_cg _ (fun i hi => ⟨(h i hi).symm ▸ rfl, rfl⟩)
theorem lr_on_cg2 {g : Nat → Int32} {d d2 : Int32} (h : ∀ so, lr_ld g 1 so d = lr_ld g 1 so d2) : ∀ n x, lr_on g d n x = lr_on g d2 n x := by
  intro n
  induction n with
  | zero => intro x; rfl
  | succ n ih => intro x; simp only [lr_on]; rw [h, ih]
theorem lr_rnd_cg2 {g : Nat → Int32} {d d2 : Int32} (h : ∀ so, lr_ld g 1 so d = lr_ld g 1 so d2) : lr_rnd g d = lr_rnd g d2 := by
  unfold lr_rnd
  exact lr_any_cg _ _ (fun i _ _ => by rw [lr_on_cg2 h])
theorem lr_Rd {g : Nat → Int32} (hG : lr_G g) {r : Nat} (hr : r < lr_n g 167) : ∃ a b, g (171 + 5 * r) = nI a ∧ g (172 + 5 * r) = nI b ∧ a ≤ b ∧ b ≤ 365 := (hG.2.2.2.2.2.2.2.2.2.2.2.1 r hr).2.2.2
/-- a day on which a redirect begins or has just ended -/
def lr_ev (g : Nat → Int32) (d : Nat) : Prop := ∃ r, r < lr_n g 167 ∧ (g (171 + 5 * r) = nI d ∨ ∃ b, g (172 + 5 * r) = nI b ∧ b + 1 = d)
theorem lr_rnd_none {g : Nat → Int32} (hG : lr_G g) {d : Int32} (h : ∀ r, r < lr_n g 167 → ∀ so, lr_rc g 1 so d r = false) : lr_rnd g d = false := by
  have hl : ∀ so, lr_ld g 1 so d = -1 := by
    intro so
    unfold lr_ld
    have : ∀ n, n ≤ lr_n g 167 → lr_tg g (lr_rc g 1 so d) n = -1 := by
      intro n
      induction n with
      | zero => intro _; rfl
      | succ n ih => intro hn; simp only [lr_tg]; rw [h n (by omega) so, if_neg (by decide), ih (by omega)]
    exact this _ (Nat.le_refl _)
  unfold lr_rnd
  rw [Bool.eq_false_iff]
  intro c
  obtain ⟨i, -, -, hi⟩ := (lr_any_iff _ _).mp c
  have m1 := lr_mh hG
  have e : lr_on g d 17 (nI i) = -1 := by
    have hm : ∀ n, lr_on g d n (-1) = -1 := by
      intro n
      cases n with
      | zero => rfl
      | succ n => simp only [lr_on]; rw [if_pos trivial]
    show (if nI i = -1 then nI i else lr_on g d 16 (lr_ld g 1 (nI i) d)) = -1
    by_cases q : nI i = -1
    · rw [if_pos q, q]
    · rw [if_neg q, hl, hm]
  rw [e] at hi
  exact absurd hi (by decide)
/-- who goes round on a day, goes round on such a day not later -/
theorem lr_ev_of {g : Nat → Int32} (hG : lr_G g) : ∀ d, d ≤ 365 → lr_rnd g (nI d) = true → ∃ e, e ≤ d ∧ lr_ev g e ∧ lr_rnd g (nI e) = true := by
  intro d
  induction d with
  | zero =>
    intro _ h
    by_cases c : lr_ev g 0
    · exact ⟨0, Nat.le_refl _, c, h⟩
    · exfalso
      rw [lr_rnd_none hG (fun r hr so => ?_)] at h
      · exact absurd h (by decide)
      · obtain ⟨a, b, ha, hb, hab, hb5⟩ := lr_Rd hG hr
        have h0 : a ≠ 0 := fun q => c ⟨r, hr, Or.inl (by rw [ha, q])⟩
        unfold lr_rc lr_in
        rw [ha, decide_eq_true (nI_lt (a := 0) (b := a) (by omega) (by omega)), Bool.not_true, Bool.false_and, Bool.and_false, Bool.and_false]
  | succ d ih =>
    intro hd h
    by_cases c : lr_ev g (d + 1)
    · exact ⟨d + 1, Nat.le_refl _, c, h⟩
    · have e : lr_rnd g (nI (d + 1)) = lr_rnd g (nI d) := lr_rnd_cg2 (fun so => lr_ld_cg2 (fun r hr => by
        obtain ⟨a, b, ha, hb, hab, hb5⟩ := lr_Rd hG hr
        exact lr_rc_day ha hb (by omega) (by omega) (by omega) (fun q => c ⟨r, hr, Or.inl (by rw [ha, q])⟩) (fun q => c ⟨r, hr, Or.inr ⟨b, hb, by omega⟩⟩)))
      rw [e] at h
      obtain ⟨x, h1, h2, h3⟩ := ih (by omega) h
      exact ⟨x, by omega, h2, h3⟩
/-- no redirect counts after day 365 -/
theorem lr_rnd_366 {g : Nat → Int32} (hG : lr_G g) : lr_rnd g (nI 366) = false := by
  refine lr_rnd_none hG (fun r hr so => ?_)
  obtain ⟨a, b, ha, hb, hab, hb5⟩ := lr_Rd hG hr
  unfold lr_rc lr_in
  rw [hb, decide_eq_true (nI_lt (a := b) (b := 366) (by omega) (by omega)), Bool.not_true, Bool.and_false, Bool.and_false, Bool.and_false]
/-- redirects lead round on some day -/
def lr_P (g : Nat → Int32) : Prop := ∃ d, d ≤ 365 ∧ lr_rnd g (nI d) = true
theorem lr_rr_iff {g : Nat → Int32} (hG : lr_G g) : lr_rr g = true ↔ lr_P g := by
  unfold lr_rr
  rw [lr_any_iff]
  constructor
  · rintro ⟨r, -, hr, h⟩
    obtain ⟨a, b, ha, hb, hab, hb5⟩ := lr_Rd hG (r := r) (by omega)
    rw [ha, hb, Bool.or_eq_true, Bool.and_eq_true] at h
    rcases h with h | ⟨h1, h2⟩
    · exact ⟨a, by omega, h⟩
    · have := (nJ_lt (b := 365) (by omega) (by omega)).mp (of_decide_eq_true h1)
      rw [nI_1] at h2
      exact ⟨b + 1, by omega, h2⟩
  · rintro ⟨d, hd, h⟩
    obtain ⟨e, he, ⟨r, hr, hev⟩, h2⟩ := lr_ev_of hG d hd h
    obtain ⟨a, b, ha, hb, hab, hb5⟩ := lr_Rd hG hr
    refine ⟨r, Nat.zero_le _, by omega, ?_⟩
    rw [Bool.or_eq_true, Bool.and_eq_true]
    rcases hev with q | ⟨b', q, q2⟩
    · rw [q]; exact Or.inl h2
    · right
      rw [q, nI_1, q2]
      exact ⟨decide_eq_true (nI_lt (a := b') (b := 365) (by omega) (by omega)), h2⟩
/-- the class's search, over the days of g, of the rounds of g2 -/
theorem lr_crw_iff {g g2 : Nat → Int32} (hG : lr_G g) (hG2 : lr_G g2) {sk : Int32} (hc : ∀ d, lr_crd g d sk = lr_rnd g2 d) (hev : ∀ d, lr_ev g2 d → lr_ev g d) : lr_crw g sk = true ↔ lr_P g2 := by
  unfold lr_crw
  rw [lr_any_iff]
  constructor
  · rintro ⟨r, -, hr, h⟩
    obtain ⟨a, b, ha, hb, hab, hb5⟩ := lr_Rd hG (r := r) (by omega)
    rw [ha, hb, Bool.or_eq_true, hc, hc, nI_1] at h
    rcases h with h | h
    · exact ⟨a, by omega, h⟩
    · by_cases e : b = 365
      · rw [e, lr_rnd_366 hG2] at h; exact absurd h (by decide)
      · exact ⟨b + 1, by omega, h⟩
  · rintro ⟨d, hd, h⟩
    obtain ⟨e, he, hev2, h2⟩ := lr_ev_of hG2 d hd h
    obtain ⟨r, hr, q⟩ := hev e hev2
    refine ⟨r, Nat.zero_le _, by omega, ?_⟩
    rw [Bool.or_eq_true, hc, hc]
    rcases q with q | ⟨b', q, q2⟩
    · rw [q]; exact Or.inl h2
    · rw [q, nI_1, q2]; exact Or.inr h2
theorem lr_crw_no {g : Nat → Int32} (hG : lr_G g) : lr_crw g (-1) = lr_rr g := by
  rw [Bool.eq_iff_iff, lr_crw_iff hG hG (lr_crd_no hG) (fun d h => h), lr_rr_iff hG]
theorem lr_crw_grem {g : Nat → Int32} (hG : lr_G g) {k : Nat} (hk : k < lr_n g 167) (hG2 : lr_G (lr_grem g k)) : lr_crw g (nI k) = lr_rr (lr_grem g k) := by
  have m4 := lr_mr hG
  have hn : lr_n (lr_grem g k) 167 = lr_n g 167 - 1 := by
    show (lr_grem g k 167).toNatClampNeg = _
    rw [show lr_grem g k 167 = nI (lr_n g 167 - 1) from by unfold lr_grem; rw [if_neg (by omega), if_pos rfl], nI_clamp (by omega)]
  rw [Bool.eq_iff_iff, lr_crw_iff hG hG2 (lr_crd_grem hG hk hG2) (fun d h => ?_), lr_rr_iff hG2]
  obtain ⟨r, hr, q⟩ := h
  rw [hn] at hr
  have q3 := lr_grem_at (c := 3) m4 hk (i := r) (by omega) (by omega); have q4 := lr_grem_at (c := 4) m4 hk (i := r) (by omega) (by omega)
  simp only [Nat.reduceAdd] at q3 q4
  rw [q3, q4] at q
  by_cases c : r < k
  · rw [if_pos c, if_pos c] at q; exact ⟨r, by omega, q⟩
  · rw [if_neg c, if_neg c] at q; exact ⟨r + 1, by omega, q⟩
/-- no round found: none on any day -/
theorem lr_rr_X {g : Nat → Int32} (hG : lr_G g) (h : lr_rr g = false) : lr_X g := fun d hd => by
  rw [← Bool.not_eq_true]
  intro c
  rw [(lr_rr_iff hG).mpr ⟨d, hd, c⟩] at h
  exact absurd h (by decide)
