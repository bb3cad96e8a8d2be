/-! rounds: the class's search on one day -/
theorem lr_tgo_ok {g : Nat → Int32} (hG : lr_G g) (ki so d sk : Int32) : lr_tgo g ki so d sk = -1 ∨ ∃ t, lr_tgo g ki so d sk = nI t ∧ t < lr_n g 2 := by
  unfold lr_tgo
  have : ∀ n, n ≤ lr_n g 167 → lr_tg g (fun r => !(decide (nI r = sk)) && lr_rc g ki so d r) n = -1 ∨ ∃ t, lr_tg g (fun r => !(decide (nI r = sk)) && lr_rc g ki so d r) n = nI t ∧ t < lr_n g 2 := by
    intro n
    induction n with
    | zero => intro _; exact Or.inl rfl
    | succ n ih =>
      intro hn
      simp only [lr_tg]
      split
      · obtain ⟨-, -, ⟨t, ht, ht2⟩, -⟩ := hG.2.2.2.2.2.2.2.2.2.2.2.1 n (by omega)
        exact Or.inr ⟨t, ht, ht2⟩
      · exact ih (by omega)
  exact this _ (Nat.le_refl _)
/-- an answer not -1 comes from a redirect -/
theorem lr_tgo_src {g : Nat → Int32} {ki so d sk : Int32} (h : ¬ lr_tgo g ki so d sk = -1) : ∃ i, i < lr_n g 167 ∧ ¬ nI i = sk ∧ g (168 + 5 * i) = ki ∧ g (169 + 5 * i) = so ∧ lr_in d (g (171 + 5 * i)) (g (172 + 5 * i)) = true := by
  unfold lr_tgo at h
  have : ∀ n, ¬ lr_tg g (fun r => !(decide (nI r = sk)) && lr_rc g ki so d r) n = -1 → ∃ i, i < n ∧ ¬ nI i = sk ∧ g (168 + 5 * i) = ki ∧ g (169 + 5 * i) = so ∧ lr_in d (g (171 + 5 * i)) (g (172 + 5 * i)) = true := by
    intro n
    induction n with
    | zero => intro c; exact absurd rfl c
    | succ n ih =>
      intro c
      simp only [lr_tg] at c
      by_cases e : (!(decide (nI n = sk)) && lr_rc g ki so d n) = true
      · unfold lr_rc at e
        simp only [Bool.and_eq_true, Bool.not_eq_true', decide_eq_false_iff_not, decide_eq_true_eq] at e
        exact ⟨n, by omega, e.1, e.2.1, e.2.2.1, e.2.2.2⟩
      · rw [if_neg e] at c
        obtain ⟨i, hi, q⟩ := ih c
        exact ⟨i, by omega, q⟩
  exact this _ h
theorem lr_cb_iff {g : Nat → Int32} (hG : lr_G g) (d sk : Int32) {s : Nat} (hs : s < 1000) : ∀ n x, (∀ t, x = some t → t < 1000) → (lr_cb g (nI s) d sk n (lr_o2i x) = true ↔ ∃ m, 1 ≤ m ∧ m ≤ n ∧ lr_ite (fun h => lr_i2o (lr_tgo g 1 (nI h) d sk)) m x = some s) := by
  have m1 := lr_mh hG
  intro n
  induction n with
  | zero => intro x _; simp only [lr_cb]; exact ⟨fun h => absurd h (by decide), fun ⟨m, h1, h2, _⟩ => by omega⟩
  | succ n ih =>
    intro x hx
    rcases x with _ | t
    · rw [show lr_o2i none = -1 from rfl]
      simp only [lr_cb]
      rw [if_pos trivial]
      exact ⟨fun h => absurd h (by decide), fun ⟨m, h1, h2, h3⟩ => by rw [lr_ite_none] at h3; exact absurd h3 (by simp)⟩
    · have ht := hx t rfl
      have hok := lr_tgo_ok hG 1 (nI t) d sk
      have ec := lr_i2o_o2i (by omega) hok
      rw [show lr_o2i (some t) = nI t from rfl]
      simp only [lr_cb]
      rw [if_neg (lr_ne1 (by omega))]
      have hlt : ∀ u, lr_i2o (lr_tgo g 1 (nI t) d sk) = some u → u < 1000 := fun u hu => by have := (lr_i2o_lt (by omega) hok hu).1; omega
      have q := ih (lr_i2o (lr_tgo g 1 (nI t) d sk)) hlt
      rw [ec] at q
      by_cases e : lr_tgo g 1 (nI t) d sk = nI s
      · rw [if_pos e]
        refine ⟨fun _ => ⟨1, by omega, by omega, ?_⟩, fun _ => rfl⟩
        simp only [lr_ite, Option.bind_some]
        rw [e]; unfold lr_i2o; rw [if_neg (lr_ne1 (by omega)), nI_clamp (by omega)]
      · rw [if_neg e, q]
        constructor
        · rintro ⟨m, h1, h2, h3⟩
          exact ⟨m + 1, by omega, by omega, h3⟩
        · rintro ⟨m, h1, h2, h3⟩
          cases m with
          | zero => omega
          | succ m =>
            simp only [lr_ite, Option.bind_some] at h3
            cases m with
            | zero =>
              exfalso
              have h4 : lr_i2o (lr_tgo g 1 (nI t) d sk) = some s := h3
              exact e (lr_i2o_lt (by omega) hok h4).2
            | succ m => exact ⟨m + 1, by omega, by omega, h3⟩
/-- the class's search on a day: whether some house never ends, the redirect sk put aside -/
theorem lr_crd_iff {g : Nat → Int32} (hG : lr_G g) (d sk : Int32) : lr_crd g d sk = true ↔ lr_nev (fun h => lr_i2o (lr_tgo g 1 (nI h) d sk)) (lr_n g 2) := by
  have m1 := lr_mh hG
  have hf : ∀ h t, (fun h => lr_i2o (lr_tgo g 1 (nI h) d sk)) h = some t → t < lr_n g 2 := fun h t e => (lr_i2o_lt (by omega) (lr_tgo_ok hG 1 (nI h) d sk) e).1
  unfold lr_nev
  rw [lr_cyc_iff m1 hf]
  unfold lr_crd
  rw [lr_any_iff]
  constructor
  · rintro ⟨i, -, hi, h⟩
    simp only [Bool.and_eq_true, Bool.not_eq_true', decide_eq_false_iff_not, decide_eq_true_eq] at h
    obtain ⟨h1, h2, h3⟩ := h
    obtain ⟨-, ⟨s, es, hs20, hs⟩, -⟩ := hG.2.2.2.2.2.2.2.2.2.2.2.1 i (by omega)
    have hsn := hs h2
    rw [es] at h3
    obtain ⟨m, a, b, c⟩ := (lr_cb_iff hG d sk (s := s) (by omega) 16 (some s) (fun t ht => by have : s = t := (by simpa using ht); omega)).mp h3
    exact ⟨s, m, hsn, a, b, c⟩
  · rintro ⟨s, m, hs, a, b, c⟩
    have hne : ¬ lr_tgo g 1 (nI s) d sk = -1 := by
      intro e
      cases m with
      | zero => omega
      | succ m =>
        simp only [lr_ite, Option.bind_some] at c
        rw [e, show lr_i2o (-1) = none from rfl, lr_ite_none] at c
        exact absurd c (by simp)
    obtain ⟨i, hi, h1, h2, h3, -⟩ := lr_tgo_src hne
    refine ⟨i, Nat.zero_le _, by omega, ?_⟩
    rw [decide_eq_false h1, decide_eq_true h2, h3]
    have q := (lr_cb_iff hG d sk (s := s) (by omega) 16 (some s) (fun t ht => by have : s = t := (by simpa using ht); omega)).mpr ⟨m, a, b, c⟩
    rw [show lr_o2i (some s) = nI s from rfl] at q
    rw [q]; rfl
theorem lr_crd_no {g : Nat → Int32} (hG : lr_G g) (d : Int32) : lr_crd g d (-1) = lr_rnd g d := by
  have m4 := lr_mr hG
  rw [Bool.eq_iff_iff, lr_crd_iff hG, lr_rnd_iff hG]
  have e : (fun h => lr_i2o (lr_tgo g 1 (nI h) d (-1))) = (fun h => lr_i2o (lr_ld g 1 (nI h) d)) := funext fun h => by rw [lr_tgo_no g 1 (nI h) d (by omega)]
  rw [e]
/-- without the redirect k -/
theorem lr_grem_at {g : Nat → Int32} {k i c : Nat} (h4 : lr_n g 167 ≤ 12) (hk : k < lr_n g 167) (hi : i + 1 < lr_n g 167) (hc : c < 5) : lr_grem g k (168 + c + 5 * i) = if i < k then g (168 + c + 5 * i) else g (168 + c + 5 * (i + 1)) := by
  unfold lr_grem
  by_cases h : i < k
  · rw [if_pos h, if_neg (by omega), if_neg (by omega)]
  · rw [if_neg h, if_pos (by omega), show 168 + c + 5 * i + 5 = 168 + c + 5 * (i + 1) from by omega]
theorem lr_tgo_grem {g : Nat → Int32} (hG : lr_G g) {k : Nat} (hk : k < lr_n g 167) (ki so d : Int32) : lr_ld (lr_grem g k) ki so d = lr_tgo g ki so d (nI k) := by
  have m4 := lr_mr hG
  have hn : lr_n (lr_grem g k) 167 = lr_n g 167 - 1 := by
    show (lr_grem g k 167).toNatClampNeg = _
    rw [show lr_grem g k 167 = nI (lr_n g 167 - 1) from by unfold lr_grem; rw [if_neg (by omega), if_pos rfl], nI_clamp (by omega)]
  have hrc : ∀ i, i + 1 < lr_n g 167 → lr_rc (lr_grem g k) ki so d i = if i < k then lr_rc g ki so d i else lr_rc g ki so d (i + 1) := by
    intro i hi
    have q0 := lr_grem_at (c := 0) m4 hk hi (by omega); have q1 := lr_grem_at (c := 1) m4 hk hi (by omega); have q3 := lr_grem_at (c := 3) m4 hk hi (by omega); have q4 := lr_grem_at (c := 4) m4 hk hi (by omega)
    simp only [Nat.reduceAdd] at q0 q1 q3 q4
    unfold lr_rc
    rw [q0, q1, q3, q4]
    split <;> rfl
  have hta : ∀ i, i + 1 < lr_n g 167 → lr_grem g k (170 + 5 * i) = if i < k then g (170 + 5 * i) else g (170 + 5 * (i + 1)) := by
    intro i hi
    have q2 := lr_grem_at (c := 2) m4 hk hi (by omega)
    simp only [Nat.reduceAdd] at q2
    exact q2
  have hlo : ∀ m, m ≤ k → m < lr_n g 167 → lr_tg (lr_grem g k) (lr_rc (lr_grem g k) ki so d) m = lr_tg g (fun r => !(decide (nI r = nI k)) && lr_rc g ki so d r) m := by
    intro m
    induction m with
    | zero => intro _ _; rfl
    | succ m ih =>
      intro h1 h2
      simp only [lr_tg]
      rw [hrc m (by omega), hta m (by omega), if_pos (show m < k by omega), if_pos (show m < k by omega), ih (by omega) (by omega)]
      have hne : ¬ nI m = nI k := fun c => by have := (nI_eq (by omega) (by omega)).mp c; omega
      simp only [hne, decide_false, Bool.not_false, Bool.true_and]
  have hhi : ∀ m, k ≤ m → m < lr_n g 167 → lr_tg (lr_grem g k) (lr_rc (lr_grem g k) ki so d) m = lr_tg g (fun r => !(decide (nI r = nI k)) && lr_rc g ki so d r) (m + 1) := by
    intro m
    induction m with
    | zero =>
      intro h1 h2
      obtain rfl : k = 0 := by omega
      simp [lr_tg]
    | succ m ih =>
      intro h1 h2
      by_cases e : k = m + 1
      · rw [hlo (m + 1) (by omega) h2]
        show _ = (if (!(decide (nI (m + 1) = nI k)) && lr_rc g ki so d (m + 1)) = true then _ else _)
        rw [e, decide_eq_true rfl, Bool.not_true, Bool.false_and, if_neg (by decide)]
      · show (if lr_rc (lr_grem g k) ki so d m = true then lr_grem g k (170 + 5 * m) else lr_tg (lr_grem g k) (lr_rc (lr_grem g k) ki so d) m) = (if (!(decide (nI (m + 1) = nI k)) && lr_rc g ki so d (m + 1)) = true then g (170 + 5 * (m + 1)) else lr_tg g (fun r => !(decide (nI r = nI k)) && lr_rc g ki so d r) (m + 1))
        rw [hrc m (by omega), hta m (by omega), if_neg (show ¬ m < k by omega), if_neg (show ¬ m < k by omega), ih (by omega) (by omega), decide_eq_false (fun c => by have := (nI_eq (by omega) (by omega)).mp c; omega), Bool.not_false, Bool.true_and]
  unfold lr_ld lr_tgo
  rw [hn, hhi (lr_n g 167 - 1) (by omega) (by omega), show lr_n g 167 - 1 + 1 = lr_n g 167 from by omega]
theorem lr_crd_grem {g : Nat → Int32} (hG : lr_G g) {k : Nat} (hk : k < lr_n g 167) (hG2 : lr_G (lr_grem g k)) (d : Int32) : lr_crd g d (nI k) = lr_rnd (lr_grem g k) d := by
  have m4 := lr_mr hG
  rw [Bool.eq_iff_iff, lr_crd_iff hG, lr_rnd_iff hG2]
  have e : (fun h => lr_i2o (lr_tgo g 1 (nI h) d (nI k))) = (fun h => lr_i2o (lr_ld (lr_grem g k) 1 (nI h) d)) := funext fun h => by rw [lr_tgo_grem hG hk]
  rw [e, show lr_n (lr_grem g k) 2 = lr_n g 2 from by unfold lr_n; rw [lr_grem_off hk m4 (by omega)]]
