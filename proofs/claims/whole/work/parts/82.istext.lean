/-! the model: a whole text -/
theorem lr_let3_rng {t : Nat → Int32} {n s s2 : Nat} {pe we : Int32} {x : Int32 × Int32 × Int32} (hs : s ≤ n) (h : lr_let3 t n pe we s = (some x, s2)) : s ≤ s2 ∧ s2 ≤ n ∧ x.1 = pe ∧ x.2.1 = we ∧ (x.2.2 = 0 ∨ x.2.2 = 1) := by
  unfold lr_let3 at h
  by_cases c : lr_hr t n s = 114
  · rw [if_pos c, if_pos c] at h
    have := lr_hr_lt (t := t) (n := n) (s := s) (by rw [c]; decide)
    simp only [Prod.mk.injEq, Option.some.injEq] at h
    obtain ⟨rfl, rfl⟩ := h
    exact ⟨by omega, by omega, rfl, rfl, Or.inr rfl⟩
  · rw [if_neg c, if_neg c] at h
    simp only [Prod.mk.injEq, Option.some.injEq] at h
    obtain ⟨rfl, rfl⟩ := h
    exact ⟨by omega, hs, rfl, rfl, Or.inl rfl⟩
theorem lr_dig_ok {x : Int32} {a : Nat} (ha : a ≤ 1) (h : lr_in x (nI (48 + a)) 57 = true) : ∃ w, x - 48 = nI w ∧ a ≤ w ∧ w ≤ 9 := by
  unfold lr_in at h
  simp only [Bool.and_eq_true, Bool.not_eq_true', decide_eq_false_iff_not] at h
  obtain ⟨h1, h2⟩ := h
  obtain ⟨j, hj, rfl⟩ := nI_of (x := x) (fun c => h1 (Int32.lt_trans c (nI_gt00 (by omega) (by omega))))
  have q1 : ¬ j < 48 + a := fun c => h1 (nI_lt c (by omega))
  have q2 : ¬ 57 < j := fun c => h2 (nI_lt (a := 57) c hj)
  exact ⟨j - 48, nI_subN (b := 48) (by omega), by omega, by omega⟩
/-- what a letter of a text may say -/
def lr_Lk (x : Int32 × Int32 × Int32) : Prop := (∃ w, x.2.1 = nI w ∧ 1 ≤ w ∧ w ≤ 9) ∧ (x.2.2 = 0 ∨ x.2.2 = 1)
theorem lr_let2_rng {t : Nat → Int32} {n s s2 : Nat} {pe : Int32} {x : Int32 × Int32 × Int32} (hs : s ≤ n) (h : lr_let2 t n pe s = (some x, s2)) : s ≤ s2 ∧ s2 ≤ n ∧ lr_Lk x := by
  unfold lr_let2 at h
  by_cases c : lr_hr t n s = 119
  · rw [if_pos c] at h
    by_cases d : lr_in (lr_hr t n (s + 1)) 49 57 = true
    · rw [if_pos d] at h
      have := lr_hr_dg (Or.inr rfl) d
      obtain ⟨q1, q2, -, q4, q5⟩ := lr_let3_rng (by omega) h
      obtain ⟨wt, e, w1, w9⟩ := lr_dig_ok (a := 1) (by omega) d
      exact ⟨by omega, q2, ⟨wt, by rw [q4, e], w1, w9⟩, q5⟩
    · rw [if_neg d] at h; simp at h
  · rw [if_neg c] at h
    obtain ⟨q1, q2, -, q4, q5⟩ := lr_let3_rng hs h
    exact ⟨q1, q2, ⟨1, by rw [q4]; rfl, by omega, by omega⟩, q5⟩
theorem lr_let_rng {t : Nat → Int32} {n s s2 : Nat} {x : Int32 × Int32 × Int32} (h : lr_let t n s = (some x, s2)) : s + 2 ≤ s2 ∧ s2 ≤ n ∧ lr_Lk x := by
  unfold lr_let at h
  by_cases c : lr_hr t n s = 112
  · rw [if_pos c] at h
    by_cases d : lr_in (lr_hr t n (s + 1)) 48 57 = true
    · rw [if_pos d] at h
      have hd := lr_hr_dg (Or.inl rfl) d
      by_cases e : 0 < lr_hr t n (s + 1) - 48 ∧ lr_in (lr_hr t n (s + 2)) 48 57 = true
      · rw [if_pos e] at h
        have he := lr_hr_dg (Or.inl rfl) e.2
        obtain ⟨q1, q2, q3⟩ := lr_let2_rng (by omega) h
        exact ⟨by omega, q2, q3⟩
      · rw [if_neg e] at h
        obtain ⟨q1, q2, q3⟩ := lr_let2_rng (by omega) h
        exact ⟨by omega, q2, q3⟩
    · rw [if_neg d] at h; simp at h
  · rw [if_neg c] at h; simp at h
/-- a text read: the place of its fault, or -1; its letters -/
def lr_rd (t : Nat → Int32) (n : Nat) : Nat → Nat → List (Int32 × Int32 × Int32) → Int32 × List (Int32 × Int32 × Int32)
  | 0, s, A => (nI s, A)
  | f + 1, s, A => match lr_let t n s with
    | (none, s2) => (nI s2, A)
    | (some x, s2) => if s2 = n then (-1, A ++ [x]) else if lr_hr t n s2 = 44 then lr_rd t n f (s2 + 1) (A ++ [x]) else (nI s2, A ++ [x])
/-- row f tells the letters A -/
def lr_Tl (f : Nat → Int32) (A : List (Int32 × Int32 × Int32)) : Prop := ∀ i x, A[i]? = some x → f (3 * i) = x.1 ∧ f (3 * i + 1) = x.2.1 ∧ f (3 * i + 2) = x.2.2
theorem lr_Tl.add {f f2 : Nat → Int32} {A : List (Int32 × Int32 × Int32)} {x : Int32 × Int32 × Int32} (h : lr_Tl f A) (ho : ∀ j, j < 3 * A.length → f2 j = f j) (h1 : f2 (3 * A.length) = x.1) (h2 : f2 (3 * A.length + 1) = x.2.1) (h3 : f2 (3 * A.length + 2) = x.2.2) : lr_Tl f2 (A ++ [x]) := by
  intro i y hy
  by_cases c : i < A.length
  · rw [List.getElem?_append_left c] at hy
    rw [ho _ (by omega), ho _ (by omega), ho _ (by omega)]
    exact h i y hy
  · rw [List.getElem?_append_right (by omega)] at hy
    by_cases e : i = A.length
    · subst e
      rw [Nat.sub_self] at hy
      have : x = y := by simpa using hy
      rw [← this]; exact ⟨h1, h2, h3⟩
    · rw [List.getElem?_eq_none (by simp; omega)] at hy; exact absurd hy (by simp)
/-- the model's answer to a text -/
def lr_Tq (R : Int32 × List (Int32 × Int32 × Int32)) (μ0 : pm_Mm) (v : Option Value) (μ2 : pm_Mm) : Prop := v = some (.int (lr_b (decide (R.1 = -1)))) ∧ lr_Fa μ0 0 μ2 ∧ (¬ R.1 = -1 → μ2.1 47 12 = R.1) ∧ (R.1 = -1 → μ2.1 47 15 = nI R.2.length ∧ lr_Tl (μ2.1 54) R.2 ∧ R.2.length ≤ 13 ∧ ∀ x, x ∈ R.2 → lr_Lk x)
theorem lr_Fa.tr0 {μ0 a b : pm_Mm} {k : Nat} (h1 : lr_Fa μ0 0 a) (h2 : lr_Fa a k b) : lr_Fa μ0 0 b := ⟨fun i j h3 h4 => (h2.1 i j h3 h4).trans (h1.1 i j h3 h4), h2.2.1.trans h1.2.1, fun j hj => absurd hj (by omega)⟩
set_option maxHeartbeats 4000000 in
set_option maxRecDepth 100000 in
theorem l_X10_isText {t : Nat → Int32} {n : Nat} {μ0 : pm_Mm} {R : Int32 × List (Int32 × Int32 × Int32)} : ∀ (f s : Nat) (A : List (Int32 × Int32 × Int32)) (μ1 : pm_Mm), n < s + f → s ≤ n → lr_Tx t n s μ1 → μ1.1 47 15 = nI A.length → 3 * A.length ≤ s → lr_Tl (μ1.1 54) A → (∀ x, x ∈ A → lr_Lk x) → lr_Fa μ0 0 μ1 → R = lr_rd t n f s A → pm_V mi_X10_isText (lr_Tq R μ0, pm_NX, fun _ _ _ => True) 0 0 10 [some (.ref 47)] [] μ1 := by
  intro f
  induction f with
  | zero => intro s A μ1 h1 h2; omega
  | succ f ih =>
    intro s A μ1 hf hsn hT h15 h3 hTl hLk hF hR
    have hn40 := hT.2.2.1
    have hcall := c_X10_arrival (k := A.length) (s := s) (by omega) μ1 hT h15
    simp only [lr_rd] at hR
    rcases hq : lr_let t n s with ⟨r, s2⟩
    rw [hq] at hcall hR
    rcases r with _ | x
    · simp only at hR
      refine pm_bl [(.aload_n 0, 1, 0, 0, 0)] (pc1 := 11) (lo1 := [some (.ref 47)]) (st1 := [.ref 47]) (μ1 := μ1) (vc := True) rfl (by decide +kernel) rfl trivial ?_
      refine pm_callV2 mi_X10_arrival (ix := 197) (b := 47) (ci := 10) (kc2 := 0) (ks2 := 0) (As := []) (rest := []) hcall cal_X10_arrival lk10_197 (by decide +kernel) rfl (by decide +kernel) rfl rfl rfl rfl (Nat.le_of_ble_eq_true rfl) (by decide) (by decide) (fun _ _ h9 => h9.elim) ?_
      rintro v9 μ3 ⟨hT3, hF3, hN3, hS3⟩
      obtain ⟨rfl, h153⟩ := hN3 rfl
      show pm_V _ _ _ _ 14 _ [.int 0] _
      refine pm_if_ne (off := 5) 19 (by decide +kernel) (by decide) (fun h9 => absurd h9 (by decide)) (fun _ => ?_)
      refine pm_bl [(.iconst 0, 1, 0, 0, 0)] (pc1 := 18) (lo1 := [some (.ref 47)]) (st1 := [.int 0]) (μ1 := μ3) (vc := True) rfl (by decide +kernel) rfl trivial ?_
      exact pm_iret (ty := .boolean) rfl (rfl) (by decide) (by decide) (by decide +kernel) (by rw [hR]; have q40 := hT3.2.2.2.1; exact ⟨by rw [decide_eq_false (lr_ne1 (by simp only at q40; omega))]; rfl, hF.tr0 hF3, fun _ => hT3.1, fun e => absurd e (lr_ne1 (by simp only at q40; omega))⟩)
    · simp only at hR
      obtain ⟨g1, g2, g3⟩ := lr_let_rng hq
      have hA : ∀ y, y ∈ A ++ [x] → lr_Lk y := fun y hy => by
        rcases List.mem_append.mp hy with e | e
        · exact hLk y e
        · rw [List.mem_singleton.mp e]; exact g3
      refine pm_bl [(.aload_n 0, 1, 0, 0, 0)] (pc1 := 11) (lo1 := [some (.ref 47)]) (st1 := [.ref 47]) (μ1 := μ1) (vc := True) rfl (by decide +kernel) rfl trivial ?_
      refine pm_callV2 mi_X10_arrival (ix := 197) (b := 47) (ci := 10) (kc2 := 0) (ks2 := 0) (As := []) (rest := []) hcall cal_X10_arrival lk10_197 (by decide +kernel) rfl (by decide +kernel) rfl rfl rfl rfl (Nat.le_of_ble_eq_true rfl) (by decide) (by decide) (fun _ _ h9 => h9.elim) ?_
      rintro v9 μ3 ⟨hT3, hF3, hN3, hS3⟩
      obtain ⟨rfl, h153, t1, t2, t3⟩ := hS3 x.1 x.2.1 x.2.2 rfl
      have hTl3 := hTl.add (f2 := μ3.1 54) hF3.2.2 t1 t2 t3
      have hF03 := hF.tr0 hF3
      simp only at hT3
      show pm_V _ _ _ _ 14 _ [.int 1] _
      refine pm_if_ne (off := 5) 19 (by decide +kernel) (by decide) (fun _ => ?_) (fun h9 => absurd h9 (by decide))
      by_cases h44 : lr_hr t n s2 = 44
      · refine pm_bl [(.aload_n 0, 1, 0, 0, 0), (.bipush 44, 2, 0, 0, 44)] (pc1 := 22) (lo1 := [some (.ref 47)]) (st1 := [.int 44, .ref 47]) (μ1 := μ3) (vc := True) rfl (by decide +kernel) rfl trivial ?_
        refine pm_callV2 mi_X10_skips (ix := 191) (b := 47) (ci := 10) (kc2 := 0) (ks2 := 0) (As := [.int 44]) (rest := []) (c_X10_skips_y (s := s2) (by decide) μ3 hT3 h44) cal_X10_skips lk10_191 (by decide +kernel) rfl (by decide +kernel) rfl rfl rfl rfl (Nat.le_of_ble_eq_true rfl) (by decide) (by decide) (fun _ _ h9 => h9.elim) ?_
        rintro _ _ ⟨rfl, h9⟩; rw [h9]; clear h9
        show pm_V _ _ _ _ 25 _ [.int 1] _
        refine pm_if_ne (off := -15) 10 (by decide +kernel) (by decide) (fun _ => ?_) (fun h9 => absurd h9 (by decide))
        have hlt := lr_hr_lt (t := t) (n := n) (s := s2) (by rw [h44]; decide)
        rw [if_neg (by omega), if_pos h44] at hR
        refine ih (s2 + 1) (A ++ [x]) _ (by omega) (by omega) (hT3.set (by omega)) (by rw [pm_set_miss (Or.inr (by decide)), List.length_append]; exact h153) (by rw [List.length_append]; show 3 * (A.length + 1) ≤ _; omega) (by rw [pm_set_off (by decide)]; exact hTl3) hA (hF03.st (Or.inr ⟨rfl, Or.inl rfl⟩)) hR
      · refine pm_bl [(.aload_n 0, 1, 0, 0, 0), (.bipush 44, 2, 0, 0, 44)] (pc1 := 22) (lo1 := [some (.ref 47)]) (st1 := [.int 44, .ref 47]) (μ1 := μ3) (vc := True) rfl (by decide +kernel) rfl trivial ?_
        refine pm_callV2 mi_X10_skips (ix := 191) (b := 47) (ci := 10) (kc2 := 0) (ks2 := 0) (As := [.int 44]) (rest := []) (c_X10_skips_n (s := s2) (by decide) μ3 hT3 h44) cal_X10_skips lk10_191 (by decide +kernel) rfl (by decide +kernel) rfl rfl rfl rfl (Nat.le_of_ble_eq_true rfl) (by decide) (by decide) (fun _ _ h9 => h9.elim) ?_
        rintro _ _ ⟨rfl, h9⟩; rw [h9]; clear h9
        show pm_V _ _ _ _ 25 _ [.int 0] _
        refine pm_if_ne (off := -15) 10 (by decide +kernel) (by decide) (fun h9 => absurd h9 (by decide)) (fun _ => ?_)
        refine pm_bl [(.aload_n 0, 1, 0, 0, 0), (.getfield 182, 3, 10, 12, 0)] (pc1 := 32) (lo1 := [some (.ref 47)]) (st1 := [.int ((pm_set μ3 47 12 (nI s2)).1 47 12)]) (μ1 := pm_set μ3 47 12 (nI s2)) (vc := True) rfl (by decide +kernel) rfl trivial ?_
        rw [pm_set_hit]
        refine pm_bl [(.aload_n 0, 1, 0, 0, 0), (.getfield 179, 3, 10, 11, 0)] (pc1 := 36) (lo1 := [some (.ref 47)]) (st1 := [.int ((pm_set μ3 47 12 (nI s2)).1 47 11), .int (nI s2)]) (μ1 := pm_set μ3 47 12 (nI s2)) (vc := True) rfl (by decide +kernel) rfl trivial ?_
        rw [show (pm_set μ3 47 12 (nI s2)).1 47 11 = nI n from by rw [pm_set_miss (Or.inr (by decide))]; exact hT3.2.1]
        refine pm_icmp_ne (off := 7) 43 (by decide +kernel) (by decide) (fun (h36 : ¬ (nI s2) = (nI n)) => ?_) (fun (h36 : (nI s2) = (nI n)) => ?_)
        · refine pm_bl [(.iconst 0, 1, 0, 0, 0)] (pc1 := 44) (lo1 := [some (.ref 47)]) (st1 := [.int 0]) (μ1 := pm_set μ3 47 12 (nI s2)) (vc := True) rfl (by decide +kernel) rfl trivial ?_
          exact pm_iret (ty := .boolean) rfl (rfl) (by decide) (by decide) (by decide +kernel) (by have e9 : ¬ s2 = n := fun c => absurd (congrArg nI c) h36; rw [if_neg e9, if_neg h44] at hR; rw [hR]; exact ⟨by rw [decide_eq_false (lr_ne1 (by omega))]; rfl, hF03.st (Or.inr ⟨rfl, Or.inl rfl⟩), fun _ => pm_set_hit, fun e => absurd e (lr_ne1 (by omega))⟩)
        · refine pm_bl [(.iconst 1, 1, 0, 0, 1), (.goto 4, 3, 44, 0, 0)] (pc1 := 44) (lo1 := [some (.ref 47)]) (st1 := [.int 1]) (μ1 := pm_set μ3 47 12 (nI s2)) (vc := True) rfl (by decide +kernel) rfl trivial ?_
          exact pm_iret (ty := .boolean) rfl (rfl) (by decide) (by decide) (by decide +kernel) (by have e9 : s2 = n := (nI_eq (by omega) (by omega)).mp (by first | exact h36 | exact Classical.byContradiction h36); rw [if_pos e9] at hR; rw [hR]; exact ⟨rfl, hF03.st (Or.inr ⟨rfl, Or.inl rfl⟩), fun c => absurd rfl c, fun _ => ⟨by rw [pm_set_miss (Or.inr (by decide)), List.length_append]; exact h153, by rw [pm_set_off (by decide)]; exact hTl3, by rw [List.length_append]; show A.length + 1 ≤ 13; omega, hA⟩⟩)
set_option maxHeartbeats 4000000 in
set_option maxRecDepth 100000 in
theorem c_X10_isText {t : Nat → Int32} {n : Nat} (μ : pm_Mm) (h11 : μ.1 47 11 = nI n) (hn : n ≤ 40) (ht : ∀ i, i < n → μ.1 53 i = t i) : pm_CT mi_X10_isText [.ref 47] μ (lr_Tq (lr_rd t n 41 0 []) μ) pm_NX := by
  refine pm_CT_of (lo := [some (.ref 47)]) (by decide +kernel) rfl rfl (by intro v hv; simp at hv; rcases hv with rfl <;> rfl) (Nat.le_of_ble_eq_true rfl) rfl ?_
  refine pm_bl [(.aload_n 0, 1, 0, 0, 0), (.iconst 0, 1, 0, 0, 0), (.putfield 182, 3, 10, 12, 0), (.aload_n 0, 1, 0, 0, 0), (.iconst 0, 1, 0, 0, 0), (.putfield 188, 3, 10, 15, 0)] (pc1 := 10) (lo1 := [some (.ref 47)]) (st1 := []) (μ1 := pm_set (pm_set μ 47 12 0) 47 15 0) (vc := True) rfl (by decide +kernel) rfl trivial ?_
  refine l_X10_isText (t := t) (n := n) 41 0 [] _ (by omega) (by omega) ⟨?_, ?_, hn, by omega, fun i hi => by rw [pm_set_off (by decide), pm_set_off (by decide)]; exact ht i hi⟩ (by rw [pm_set_hit]; rfl) (by decide) (fun i x h => absurd h (by simp)) (fun x h => absurd h (by simp)) ((lr_Fa.rf.st (Or.inr ⟨rfl, Or.inl rfl⟩)).st (Or.inr ⟨rfl, Or.inr rfl⟩)) rfl
  · rw [pm_set_miss (Or.inr (by decide)), pm_set_hit]; rfl
  · rw [pm_set_miss (Or.inr (by decide)), pm_set_miss (Or.inr (by decide))]; exact h11
