/-! more new rows; ways; sums -/
theorem lr_G.d {g : Nat → Int32} (hG : lr_G g) {k : Nat} (hk : k < lr_n g 167) : lr_G (lr_grem g k) := by
  have m4 := lr_mr hG
  have hn : lr_n (lr_grem g k) 167 = lr_n g 167 - 1 := by
    show (lr_grem g k 167).toNatClampNeg = _
    rw [show lr_grem g k 167 = nI (lr_n g 167 - 1) from by unfold lr_grem; rw [if_neg (by omega), if_pos rfl], nI_clamp (by omega)]
  have u : ∀ x, (x < 167 ∨ 228 ≤ x) → lr_grem g k x = g x := fun x q => lr_grem_off hk m4 q
  have en : ∀ x, (x < 167 ∨ 228 ≤ x) → lr_n (lr_grem g k) x = lr_n g x := fun x hx => by unfold lr_n; rw [u x hx]
  refine hG.of (by rw [en 2 (by omega)]; exact Nat.le_refl _) (by rw [en 35 (by omega)]; exact Nat.le_refl _) (fun x hx => u x (by omega)) (Or.inl fun x _ _ => u x (by omega)) (Or.inl fun x _ _ => u x (by omega)) (Or.inl fun x _ _ => u x (by omega)) (Or.inr ⟨⟨by rw [hn]; unfold lr_grem; rw [if_neg (by omega), if_pos rfl], by omega⟩, fun i hi => ?_⟩) (by rw [en 228 (by omega), u 228 (by omega)]; exact hG.2.2.2.2.2.2.1) (fun x _ _ => u x (by omega))
  rw [hn] at hi
  rw [en 2 (by omega)]
  have v := fun c (hc : c < 5) => lr_grem_at (c := c) m4 hk (i := i) (by omega) hc
  have v0 := v 0 (by omega); have v1' := v 1 (by omega); have v2 := v 2 (by omega); have v3 := v 3 (by omega); have v4 := v 4 (by omega)
  simp only [Nat.reduceAdd] at v0 v1' v2 v3 v4
  rw [v0, v1', v2, v3, v4]
  by_cases c : i < k
  · rw [if_pos c, if_pos c, if_pos c, if_pos c, if_pos c]; exact hG.2.2.2.2.2.2.2.2.2.2.2.1 i (by omega)
  · rw [if_neg c, if_neg c, if_neg c, if_neg c, if_neg c]; exact hG.2.2.2.2.2.2.2.2.2.2.2.1 (i + 1) (by omega)
theorem lr_I.d {g : Nat → Int32} (hI : lr_I g) {k : Nat} (hk : k < lr_n g 167) (hr : lr_rr (lr_grem g k) = false) : lr_I (lr_grem g k) := by
  have m4 := lr_mr hI.1
  exact hI.mk2 (hI.1.d hk) (lr_rr_X (hI.1.d hk) hr) (hI.2.2.1.cg (lr_mh hI.1) (fun x _ _ => lr_grem_off hk m4 (by omega))) (lr_grem_off hk m4 (by omega)) (fun x _ _ => lr_grem_off hk m4 (by omega))
theorem lr_gabs2_o {g : Nat → Int32} (m5 : lr_n g 228 ≤ 20) {pe fi la : Int32} {x : Nat} (q : x < 228 ∨ 289 ≤ x) : lr_gabs2 g pe fi la x = g x := by
  have v : ∀ h : Nat → Int32, lr_n h 228 < 20 → lr_gabs h pe fi la x = h x := fun h hh => by unfold lr_gabs; rw [upd_ne (by omega), upd_ne (by omega), upd_ne (by omega), upd_ne (by omega)]
  unfold lr_gabs2
  split
  · rw [v _ (by show (lr_gsha g 228).toNatClampNeg < 20; rw [show lr_gsha g 228 = nI 19 from by unfold lr_gsha; rw [if_neg (by omega), if_pos rfl], nI_clamp (by omega)]; omega)]
    unfold lr_gsha; rw [if_neg (by omega), if_neg (by omega)]
  · exact v g (by omega)
theorem lr_gabs2_n {g : Nat → Int32} (m5 : lr_n g 228 ≤ 20) {pe fi la : Int32} : lr_gabs2 g pe fi la 228 = nI (min (lr_n g 228 + 1) 20) := by
  unfold lr_gabs2
  split
  · rename_i e
    unfold lr_gabs
    rw [upd_eq, show lr_n (lr_gsha g) 228 = 19 from by show (lr_gsha g 228).toNatClampNeg = _; rw [show lr_gsha g 228 = nI 19 from by unfold lr_gsha; rw [if_neg (by omega), if_pos rfl], nI_clamp (by omega)], e]; rfl
  · unfold lr_gabs; rw [upd_eq, Nat.min_eq_left (by omega)]
theorem lr_I.a {g : Nat → Int32} (hI : lr_I g) {pe fi la : Int32} : lr_I (lr_gabs2 g pe fi la) := by
  have hG := hI.1
  have m5 := lr_ma hG
  have u : ∀ x, (x < 228 ∨ 289 ≤ x) → lr_gabs2 g pe fi la x = g x := fun x q => lr_gabs2_o m5 q
  have en : ∀ x, (x < 228 ∨ 289 ≤ x) → lr_n (lr_gabs2 g pe fi la) x = lr_n g x := fun x hx => by unfold lr_n; rw [u x hx]
  have e2 : lr_n (lr_gabs2 g pe fi la) 228 = min (lr_n g 228 + 1) 20 := by show (lr_gabs2 g pe fi la 228).toNatClampNeg = _; rw [lr_gabs2_n m5, nI_clamp (by omega)]
  have hG2 : lr_G (lr_gabs2 g pe fi la) := hG.of (by rw [en 2 (by omega)]; exact Nat.le_refl _) (by rw [en 35 (by omega)]; exact Nat.le_refl _) (fun x hx => u x (by omega)) (Or.inl fun x _ _ => u x (by omega)) (Or.inl fun x _ _ => u x (by omega)) (Or.inl fun x _ _ => u x (by omega)) (Or.inl fun x _ _ => u x (by omega)) (by rw [e2, lr_gabs2_n m5]; exact ⟨rfl, by omega⟩) (fun x _ _ => u x (by omega))
  exact hI.mk2 hG2 (hI.2.1.cg hG (fun s d => lr_ld_cg3 (lr_mr hG) (fun x _ _ => u x (by omega)) 1 s d) (by rw [en 2 (by omega)]; exact lr_mh hG)) (hI.2.2.1.cg (lr_mh hG) (fun x _ _ => u x (by omega))) (u 1 (by omega)) (fun x _ _ => u x (by omega))
/-- a person's own numbers changed -/
theorem lr_I.u {g g2 : Nat → Int32} (hI : lr_I g) {h : Nat} (hh : h < lr_n g 35) (ho : ∀ x, x ≠ 37 + 4 * h → x ≠ 38 + 4 * h → x ≠ 39 + 4 * h → g2 x = g x) (h7 : ∃ b, g2 (37 + 4 * h) = nI b - 1 ∧ b ≤ 366) (h8 : ∃ c, g2 (38 + 4 * h) = nI c ∧ c ≤ 9) : lr_I g2 := by
  have hG := hI.1
  have m2 := lr_mp hG
  have u : ∀ x, (x < 36 ∨ 116 ≤ x) → g2 x = g x := fun x q => ho x (by omega) (by omega) (by omega)
  have en : ∀ x, (x < 36 ∨ 116 ≤ x) → lr_n g2 x = lr_n g x := fun x hx => by unfold lr_n; rw [u x hx]
  have hG2 : lr_G g2 := hG.of (by rw [en 2 (by omega)]; exact Nat.le_refl _) (by rw [en 35 (by omega)]; exact Nat.le_refl _) (fun x hx => u x (by omega)) (Or.inl fun x _ _ => u x (by omega)) (Or.inr ⟨by rw [en 35 (by omega), u 35 (by omega)]; exact hG.2.2.2.1, fun i hi => by
    rw [en 35 (by omega)] at hi
    rw [en 2 (by omega), ho (36 + 4 * i) (by omega) (by omega) (by omega)]
    have q := hG.2.2.2.2.2.2.2.2.2.1 i hi
    by_cases e : i = h
    · rw [e] at q ⊢; exact ⟨q.1, h7, h8⟩
    · rw [ho (37 + 4 * i) (by omega) (by omega) (by omega), ho (38 + 4 * i) (by omega) (by omega) (by omega)]; exact q⟩) (Or.inl fun x _ _ => u x (by omega)) (Or.inl fun x _ _ => u x (by omega)) (by rw [en 228 (by omega), u 228 (by omega)]; exact hG.2.2.2.2.2.2.1) (fun x _ _ => u x (by omega))
  exact hI.mk2 hG2 (hI.2.1.cg hG (fun s d => lr_ld_cg3 (lr_mr hG) (fun x _ _ => u x (by omega)) 1 s d) (by rw [en 2 (by omega)]; exact lr_mh hG)) (hI.2.2.1.cg (lr_mh hG) (fun x _ _ => u x (by omega))) (u 1 (by omega)) (fun x _ _ => u x (by omega))
/-- a letter more -/
theorem lr_I.l {g : Nat → Int32} (hI : lr_I g) (hn : lr_n g 289 < 30) {pe we re : Int32} (hG2 : lr_G (lr_glet g pe we re (g 0))) : lr_I (lr_glet g pe we re (g 0)) := by
  have hG := hI.1
  have m6 := lr_ml hG
  have hS : lr_Sm g (lr_glet g pe we re (g 0)) := fun x h1 h2 => lr_glet_o (by omega) (by omega)
  have en := lr_glet_n (g := g) (pe := pe) (we := we) (re := re) (dy := g 0) hn
  have e1 : lr_n (lr_glet g pe we re (g 0)) 1 = lr_n g 1 := by unfold lr_n; rw [lr_glet_o (by omega) (by omega)]
  have hC := hI.2.2.2.1
  have hN := hC.N hG
  have o : ∀ i c, i < lr_n g 289 → c < 11 → lr_glet g pe we re (g 0) (290 + c + 11 * i) = g (290 + c + 11 * i) := fun i c hi hc => lr_glet_o (by omega) (by omega)
  have o10 : ∀ i, i < lr_n g 289 → lr_glet g pe we re (g 0) (300 + 11 * i) = g (300 + 11 * i) := fun i hi => o i 10 hi (by omega)
  have o4 : ∀ i, i < lr_n g 289 → lr_glet g pe we re (g 0) (294 + 11 * i) = g (294 + 11 * i) := fun i hi => o i 4 hi (by omega)
  have hN2 : lr_N (lr_glet g pe we re (g 0)) := by
    unfold lr_N
    rw [en, e1]
    refine ⟨fun i d hi hd h3 => ?_, fun d hd => ?_, fun i j hi hj hne he => ?_, ?_⟩
    · by_cases e : i = lr_n g 289
      · rw [e, lr_glet_10] at hd; exact absurd hd.symm (lr_ne1 (by omega))
      · rw [o10 i (by omega)] at hd; exact hN.1 i d (by omega) hd h3
    · obtain ⟨i, hi, q⟩ := hN.2.1 d hd
      exact ⟨i, by omega, by rw [o10 i hi]; exact q⟩
    · by_cases e : i = lr_n g 289
      · rw [e, lr_glet_10] at hne; exact absurd rfl hne
      · by_cases f : j = lr_n g 289
        · rw [f, lr_glet_10] at he; exact absurd he hne
        · rw [o10 i (by omega)] at hne; rw [o10 i (by omega), o10 j (by omega)] at he
          exact hN.2.2.1 i j (by omega) (by omega) hne he
    · simp only [lr_cnt]
      rw [if_neg (fun c => by rw [Bool.not_eq_true'] at c; exact of_decide_eq_false c lr_glet_10), Nat.add_zero, hN.2.2.2]
      exact lr_cnt_cg _ (fun i hi => by rw [o10 i hi])
  refine ⟨hG2, hS.X hG hI.2.1, hI.2.2.1.cg (lr_mh hG) (fun x h1 h2 => hS x (by omega) (by omega)), hN2.C hG2 (fun i hi => ?_), fun i hi hw => ?_⟩
  · rw [en] at hi
    by_cases e : i = lr_n g 289
    · rw [e, lr_glet_4, lr_glet_10]; exact ⟨fun q => absurd q (by decide), fun q => absurd rfl q⟩
    · rw [o4 i (by omega), o10 i (by omega)]; exact hC.2.1 i (by omega)
  · rw [en] at hi
    by_cases e : i = lr_n g 289
    · rw [e, lr_glet_7]; exact ⟨0, rfl, by omega⟩
    · rw [o4 i (by omega)] at hw
      rw [show lr_glet g pe we re (g 0) (297 + 11 * i) = g (297 + 11 * i) from o i 7 (by omega) (by omega)]
      exact hI.2.2.2.2 i (by omega) hw
theorem lr_I.ls : ∀ (L : List (Int32 × Int32 × Int32)) {g : Nat → Int32}, lr_I g → (∀ x, x ∈ L → lr_Lk x) → lr_why (lr_n g 35) (lr_n g 289) L = 0 → lr_I (lr_adds g L) := by
  intro L
  induction L with
  | nil => intro g hI _ _; exact hI
  | cons x L ih =>
    intro g hI hL hw
    obtain ⟨w1, w2, w3⟩ := lr_why_t hw
    have m6 := lr_ml hI.1
    have hG2 := lr_glet_ok hI.1 (by omega) w2 (hL x (List.mem_cons_self ..))
    refine ih (hI.l (by omega) hG2) (fun y hy => hL y (List.mem_cons_of_mem _ hy)) ?_
    rw [lr_glet_n (by omega), show lr_n (lr_glet g x.1 x.2.1 x.2.2 (g 0)) 35 = lr_n g 35 from by unfold lr_n; rw [lr_glet_o (by omega) (by omega)]]
    exact w3
/-! ways: sixteen steps are enough -/
theorem lr_on_16 {g : Nat → Int32} (hI : lr_I g) {d h : Nat} (hd : d ≤ 365) (hh : h < lr_n g 2) : lr_on g (nI d) 16 (nI h) = -1 := by
  have hG := hI.1
  have m1 := lr_mh hG
  have e := lr_on_ite hG (nI d) 16 (some h) (fun t ht => by have : h = t := (by simpa using ht); omega)
  rw [show lr_o2i (some h) = nI h from rfl] at e
  rw [e]
  rcases hq : lr_ite (fun h => lr_i2o (lr_ld g 1 (nI h) (nI d))) 16 (some h) with _ | t
  · rfl
  exfalso
  have hf : ∀ h t, (fun h => lr_i2o (lr_ld g 1 (nI h) (nI d))) h = some t → t < lr_n g 2 := fun h t e => (lr_i2o_lt (by omega) (lr_ld_ok hG 1 (nI h) (nI d)) e).1
  have hs : ∀ j, j ≤ 16 → ∃ t, lr_ite (fun h => lr_i2o (lr_ld g 1 (nI h) (nI d))) j (some h) = some t ∧ t < lr_n g 2 := by
    intro j
    induction j with
    | zero => intro _; exact ⟨h, rfl, hh⟩
    | succ j ih =>
      intro hj
      obtain ⟨t, ht, htN⟩ := ih (by omega)
      have e : lr_ite (fun h => lr_i2o (lr_ld g 1 (nI h) (nI d))) (j + 1) (some h) = (fun h => lr_i2o (lr_ld g 1 (nI h) (nI d))) t := by rw [lr_ite_add, ht]; rfl
      rcases hft : (fun h => lr_i2o (lr_ld g 1 (nI h) (nI d))) t with _ | u
      · exfalso
        rw [show 16 = (j + 1) + (16 - (j + 1)) from by omega, lr_ite_add, e, hft, lr_ite_none] at hq
        exact absurd hq (by simp)
      · exact ⟨u, by rw [e, hft], hf _ _ hft⟩
  obtain ⟨i, j, hij, hj, he⟩ := lr_pigeon (lr_n g 2) (fun j => (lr_ite (fun h => lr_i2o (lr_ld g 1 (nI h) (nI d))) j (some h)).getD 0) (fun j hj => by
    obtain ⟨t, ht, htN⟩ := hs j (by omega)
    show (lr_ite _ j (some h)).getD 0 < _
    rw [ht]; exact htN)
  obtain ⟨t1, ht1, htN⟩ := hs i (by omega)
  obtain ⟨u, hu, huN⟩ := hs j (by omega)
  have e1 : t1 = u := by
    have he' : (lr_ite (fun h => lr_i2o (lr_ld g 1 (nI h) (nI d))) i (some h)).getD 0 = (lr_ite (fun h => lr_i2o (lr_ld g 1 (nI h) (nI d))) j (some h)).getD 0 := he
    rw [ht1, hu] at he'; exact he'
  have q := lr_ite_add (fun h => lr_i2o (lr_ld g 1 (nI h) (nI d))) i (j - i) (some h)
  rw [show i + (j - i) = j from by omega, hu, ht1] at q
  have hx := hI.2.1 d hd
  rw [(lr_rnd_iff hG (nI d)).mpr ((lr_cyc_iff m1 hf).mpr ⟨t1, j - i, htN, by omega, by omega, by rw [← q, e1]⟩)] at hx
  exact absurd hx (by decide)
theorem lr_on_add {g : Nat → Int32} {d : Int32} : ∀ a b x, lr_on g d (a + b) x = lr_on g d b (lr_on g d a x) := by
  intro a
  induction a with
  | zero => intro b x; rw [Nat.zero_add]; rfl
  | succ a ih =>
    intro b x
    rw [Nat.succ_add]
    simp only [lr_on]
    by_cases c : x = -1
    · rw [if_pos c, if_pos c]
      subst c
      cases b with
      | zero => rfl
      | succ b => simp only [lr_on]; rw [if_pos trivial]
    · rw [if_neg c, if_neg c]; exact ih b _
theorem lr_way_eq {g : Nat → Int32} (hI : lr_I g) {d h K : Nat} (hd : d ≤ 365) (hh : h < lr_n g 35) : (if K < 16 then lr_on g (nI d) K (lr_wb g h (nI d)) else -1) = lr_on g (nI d) K (lr_wb g h (nI d)) := by
  by_cases c : K < 16
  · rw [if_pos c]
  · rw [if_neg c]
    obtain ⟨t, e, ht⟩ := lr_wb_ok hI.1 hh (nI d)
    rw [e, show K = 16 + (K - 16) from by omega, lr_on_add, lr_on_16 hI hd ht]
    cases K - 16 with
    | zero => rfl
    | succ b => simp only [lr_on]; rw [if_pos trivial]
/-! sums -/
theorem lr_smn_eq {g : Nat → Int32} {s : Int32} (hs : ¬ s < 0) : lr_sum (lr_smn g s) (lr_n g 289) = lr_cst g s := by
  unfold lr_cst
  refine lr_sum_cg _ (fun i hi => ?_)
  unfold lr_smn
  by_cases c : g (294 + 11 * i) = s
  · rw [if_pos (Or.inr c), decide_eq_true c]; rfl
  · rw [if_neg (fun q => q.elim hs c), decide_eq_false c]; rfl
theorem lr_smt_wwt {g : Nat → Int32} : lr_sum (lr_smt g 1 0) (lr_n g 289) = lr_wwt g := by
  unfold lr_wwt
  refine lr_sum_cg _ (fun i hi => ?_)
  unfold lr_smt
  by_cases c : g (294 + 11 * i) = 0
  · rw [if_pos (Or.inr c), if_pos c]
  · rw [if_neg (fun q => q.elim (by decide) c), if_neg c]
theorem lr_smt_atr {g : Nat → Int32} : lr_sum (lr_smt g 7 (-1)) (lr_n g 289) = lr_atr g := by
  unfold lr_atr
  refine lr_sum_cg _ (fun i hi => ?_)
  unfold lr_smt
  rw [if_pos (Or.inl (by decide))]
theorem lr_smt_dtd {g : Nat → Int32} : ∀ n, lr_sum (lr_smt g 5 1) n - lr_sum (lr_smt g 3 1) n = lr_sum (fun i => if g (294 + 11 * i) = 1 then g (295 + 11 * i) - g (293 + 11 * i) else 0) n := by
  intro n
  induction n with
  | zero => show (0 : Int32) - 0 = 0; decide
  | succ n ih =>
    simp only [lr_sum]
    rw [← ih]
    unfold lr_smt
    by_cases c : g (294 + 11 * n) = 1
    · rw [if_pos (Or.inr c), if_pos (Or.inr c), if_pos c]
      simp only [Nat.reduceAdd, Int32.sub_eq_add_neg, Int32.neg_add]
      ac_rfl
    · rw [if_neg (fun q => q.elim (by decide) c), if_neg (fun q => q.elim (by decide) c), if_neg c, Int32.add_zero, Int32.add_zero, Int32.add_zero]
theorem lr_sm1_D {g : Nat → Int32} (hI : lr_I g) : lr_sum (lr_smn g 1) (lr_n g 289) = nI (lr_n g 1) := by
  rw [lr_smn_eq (by decide), ← lr_gD hI.1]
  exact hI.2.2.2.1.2.2.2.2.2.symm
