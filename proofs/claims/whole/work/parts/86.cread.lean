/-! the class: a letter of a text, a whole text -/
set_option maxHeartbeats 4000000 in
set_option maxRecDepth 100000 in
theorem t_rl1_z {t : Nat → Int32} {n k s : Nat} {μ0 : pm_Mm} (q : Option (Int32 × Int32 × Int32) × Nat) (μ : pm_Mm) (hk : μ.1 40 1 = nI k) (hk2 : k < 40) (hT : lr_Ty t n s μ) (hF : lr_Fk μ0 k μ) {d : Int32} (h : ¬ 0 < d) (hq : q = lr_let2 t n d s) : pm_V mi_X1_readLetter (lr_Cq t n μ0 k q, pm_NX, fun _ _ _ => True) 0 0 23 [some (.ref 40), some (.int d), none] [] μ := by
  have hs := hT.2.2.2.1; have hn := hT.2.2.1
  refine pm_bl [(.iload_n 1, 1, 1, 0, 0)] (pc1 := 24) (lo1 := [some (.ref 40), some (.int d), none]) (st1 := [.int d]) (μ1 := μ) (vc := True) rfl (by decide +kernel) rfl trivial ?_
  refine pm_if_le (off := 20) 44 (by decide +kernel) (by decide) (fun (h24 : d ≤ 0) => ?_) (fun (h9 : ¬ (d ≤ 0)) => absurd h9 (by intro c; exact h (Int32.not_le.mp c)))
  exact t_rl2 q μ hk hk2 hT hF hq
set_option maxHeartbeats 4000000 in
set_option maxRecDepth 100000 in
theorem t_rl1_n {t : Nat → Int32} {n k s : Nat} {μ0 : pm_Mm} (q : Option (Int32 × Int32 × Int32) × Nat) (μ : pm_Mm) (hk : μ.1 40 1 = nI k) (hk2 : k < 40) (hT : lr_Ty t n s μ) (hF : lr_Fk μ0 k μ) {d : Int32} (h : 0 < d) (h2 : lr_in (lr_hr t n s) 48 57 = false) (hq : q = lr_let2 t n d s) : pm_V mi_X1_readLetter (lr_Cq t n μ0 k q, pm_NX, fun _ _ _ => True) 0 0 23 [some (.ref 40), some (.int d), none] [] μ := by
  have hs := hT.2.2.2.1; have hn := hT.2.2.1
  refine pm_bl [(.iload_n 1, 1, 1, 0, 0)] (pc1 := 24) (lo1 := [some (.ref 40), some (.int d), none]) (st1 := [.int d]) (μ1 := μ) (vc := True) rfl (by decide +kernel) rfl trivial ?_
  refine pm_if_le (off := 20) 44 (by decide +kernel) (by decide) (fun (h9 : d ≤ 0) => absurd h (Int32.not_lt.mpr h9)) (fun (h24 : ¬ (d ≤ 0)) => ?_)
  refine pm_bl [(.aload_n 0, 1, 0, 0, 0)] (pc1 := 28) (lo1 := [some (.ref 40), some (.int d), none]) (st1 := [.ref 40]) (μ1 := μ) (vc := True) rfl (by decide +kernel) rfl trivial ?_
  refine pm_callV2 mi_X1_isDigit (ix := 43) (b := 40) (ci := 1) (kc2 := 0) (ks2 := 0) (As := []) (rest := []) (c_X1_isDigit (s := s) μ hT) cal_X1_isDigit lk1_43 (by decide +kernel) rfl (by decide +kernel) rfl rfl rfl rfl (Nat.le_of_ble_eq_true rfl) (by decide) (by decide) (fun _ _ h9 => h9.elim) ?_
  rintro _ _ ⟨rfl, h9⟩; rw [h9, h2]; clear h9
  show pm_V _ _ _ _ 31 _ [.int 0] _
  refine pm_if_eq (off := 13) 44 (by decide +kernel) (by decide) (fun _ => ?_) (fun h9 => absurd h9 (by decide))
  exact t_rl2 q μ hk hk2 hT hF hq
set_option maxHeartbeats 4000000 in
set_option maxRecDepth 100000 in
theorem t_rl1_y {t : Nat → Int32} {n k s : Nat} {μ0 : pm_Mm} (q : Option (Int32 × Int32 × Int32) × Nat) (μ : pm_Mm) (hk : μ.1 40 1 = nI k) (hk2 : k < 40) (hT : lr_Ty t n s μ) (hF : lr_Fk μ0 k μ) {d : Int32} (h : 0 < d) (h2 : lr_in (lr_hr t n s) 48 57 = true) (hq : q = lr_let2 t n (10 * d + lr_hr t n s - 48) (s + 1)) : pm_V mi_X1_readLetter (lr_Cq t n μ0 k q, pm_NX, fun _ _ _ => True) 0 0 23 [some (.ref 40), some (.int d), none] [] μ := by
  have hs := hT.2.2.2.1; have hn := hT.2.2.1
  have hsd := lr_hr_dg (Or.inl rfl) h2
  refine pm_bl [(.iload_n 1, 1, 1, 0, 0)] (pc1 := 24) (lo1 := [some (.ref 40), some (.int d), none]) (st1 := [.int d]) (μ1 := μ) (vc := True) rfl (by decide +kernel) rfl trivial ?_
  refine pm_if_le (off := 20) 44 (by decide +kernel) (by decide) (fun (h9 : d ≤ 0) => absurd h (Int32.not_lt.mpr h9)) (fun (h24 : ¬ (d ≤ 0)) => ?_)
  refine pm_bl [(.aload_n 0, 1, 0, 0, 0)] (pc1 := 28) (lo1 := [some (.ref 40), some (.int d), none]) (st1 := [.ref 40]) (μ1 := μ) (vc := True) rfl (by decide +kernel) rfl trivial ?_
  refine pm_callV2 mi_X1_isDigit (ix := 43) (b := 40) (ci := 1) (kc2 := 0) (ks2 := 0) (As := []) (rest := []) (c_X1_isDigit (s := s) μ hT) cal_X1_isDigit lk1_43 (by decide +kernel) rfl (by decide +kernel) rfl rfl rfl rfl (Nat.le_of_ble_eq_true rfl) (by decide) (by decide) (fun _ _ h9 => h9.elim) ?_
  rintro _ _ ⟨rfl, h9⟩; rw [h9, h2]; clear h9
  show pm_V _ _ _ _ 31 _ [.int 1] _
  refine pm_if_eq (off := 13) 44 (by decide +kernel) (by decide) (fun h9 => absurd h9 (by decide)) (fun _ => ?_)
  refine pm_bl [(.iload_n 1, 1, 1, 0, 0), (.bipush 10, 2, 0, 0, 10), (.imul, 1, 0, 0, 0), (.aload_n 0, 1, 0, 0, 0)] (pc1 := 39) (lo1 := [some (.ref 40), some (.int d), none]) (st1 := [.ref 40, .int (d * 10)]) (μ1 := μ) (vc := True) rfl (by decide +kernel) rfl trivial ?_
  refine pm_callV2 mi_X1_takeDigit (ix := 46) (b := 40) (ci := 1) (kc2 := 0) (ks2 := 0) (As := []) (rest := [.int (d * 10)]) (c_X1_takeDigit (s := s) μ hT h2) cal_X1_takeDigit lk1_46 (by decide +kernel) rfl (by decide +kernel) rfl rfl rfl rfl (Nat.le_of_ble_eq_true rfl) (by decide) (by decide) (fun _ _ h9 => h9.elim) ?_
  rintro _ _ ⟨rfl, h9⟩; rw [h9]; clear h9
  show pm_V _ _ _ _ 42 _ [.int (lr_hr t n s - 48), .int (d * 10)] _
  refine pm_bl [(.iadd, 1, 0, 0, 0), (.istore_n 1, 1, 1, 0, 0)] (pc1 := 44) (lo1 := [some (.ref 40), some (.int ((d * 10) + (lr_hr t n s - 48))), none]) (st1 := []) (μ1 := pm_set μ 40 6 (nI (s + 1))) (vc := True) rfl (by decide +kernel) rfl trivial ?_
  rw [show d * 10 + (lr_hr t n s - 48) = 10 * d + lr_hr t n s - 48 from by rw [Int32.mul_comm, Int32.sub_eq_add_neg, Int32.sub_eq_add_neg, Int32.add_assoc]]
  exact t_rl2 (s := s + 1) q _ (by rw [pm_set_miss (Or.inr (by decide))]; exact hk) hk2 (hT.set (by omega)) (hF.st (Or.inr ⟨rfl, Or.inr rfl⟩)) hq
set_option maxHeartbeats 4000000 in
set_option maxRecDepth 100000 in
theorem c_X1_readLetter {t : Nat → Int32} {n k s : Nat} (μ : pm_Mm) (hk : μ.1 40 1 = nI k) (hk2 : k < 40) (hT : lr_Ty t n s μ) : pm_CT mi_X1_readLetter [.ref 40] μ (lr_Cq t n μ k (lr_let t n s)) pm_NX := by
  refine pm_CT_of (lo := [some (.ref 40), none, none]) (by decide +kernel) rfl rfl (by intro v hv; simp at hv; rcases hv with rfl <;> rfl) (Nat.le_of_ble_eq_true rfl) rfl ?_
  have hs := hT.2.2.2.1; have hn := hT.2.2.1
  by_cases h : lr_hr t n s = 112
  · have hsn := lr_hr_lt (t := t) (n := n) (s := s) (by rw [h]; decide)
    have hT1 := hT.set (s2 := s + 1) (by omega)
    have hk1 : (pm_set μ 40 6 (nI (s + 1))).1 40 1 = nI k := by rw [pm_set_miss (Or.inr (by decide))]; exact hk
    have hF1 : lr_Fk μ k (pm_set μ 40 6 (nI (s + 1))) := lr_Fk.rf.st (Or.inr ⟨rfl, Or.inr rfl⟩)
    by_cases hd : lr_in (lr_hr t n (s + 1)) 48 57 = true
    · have hsd := lr_hr_dg (Or.inl rfl) hd
      have hT2 := hT1.set (s2 := s + 2) (by omega)
      have hk22 : (pm_set (pm_set μ 40 6 (nI (s + 1))) 40 6 (nI (s + 2))).1 40 1 = nI k := by rw [pm_set_miss (Or.inr (by decide))]; exact hk1
      have hF2 : lr_Fk μ k (pm_set (pm_set μ 40 6 (nI (s + 1))) 40 6 (nI (s + 2))) := hF1.st (Or.inr ⟨rfl, Or.inr rfl⟩)
      refine pm_bl [(.aload_n 0, 1, 0, 0, 0), (.bipush 112, 2, 0, 0, 112)] (pc1 := 3) (lo1 := [some (.ref 40), none, none]) (st1 := [.int 112, .ref 40]) (μ1 := μ) (vc := True) rfl (by decide +kernel) rfl trivial ?_
      refine pm_callV2 mi_X1_skip (ix := 39) (b := 40) (ci := 1) (kc2 := 0) (ks2 := 0) (As := [.int 112]) (rest := []) (c_X1_skip_y (by decide) μ hT h) cal_X1_skip lk1_39 (by decide +kernel) rfl (by decide +kernel) rfl rfl rfl rfl (Nat.le_of_ble_eq_true rfl) (by decide) (by decide) (fun _ _ h9 => h9.elim) ?_
      rintro _ _ ⟨rfl, h9⟩; rw [h9]; clear h9
      show pm_V _ _ _ _ 6 _ [.int 1] _
      refine pm_if_eq (off := 10) 16 (by decide +kernel) (by decide) (fun h9 => absurd h9 (by decide)) (fun _ => ?_)
      refine pm_bl [(.aload_n 0, 1, 0, 0, 0)] (pc1 := 10) (lo1 := [some (.ref 40), none, none]) (st1 := [.ref 40]) (μ1 := pm_set μ 40 6 (nI (s + 1))) (vc := True) rfl (by decide +kernel) rfl trivial ?_
      refine pm_callV2 mi_X1_isDigit (ix := 43) (b := 40) (ci := 1) (kc2 := 0) (ks2 := 0) (As := []) (rest := []) (c_X1_isDigit (s := s + 1) (pm_set μ 40 6 (nI (s + 1))) hT1) cal_X1_isDigit lk1_43 (by decide +kernel) rfl (by decide +kernel) rfl rfl rfl rfl (Nat.le_of_ble_eq_true rfl) (by decide) (by decide) (fun _ _ h9 => h9.elim) ?_
      rintro _ _ ⟨rfl, h9⟩; rw [h9, hd]; clear h9
      show pm_V _ _ _ _ 13 _ [.int 1] _
      refine pm_if_ne (off := 5) 18 (by decide +kernel) (by decide) (fun _ => ?_) (fun h9 => absurd h9 (by decide))
      refine pm_bl [(.aload_n 0, 1, 0, 0, 0)] (pc1 := 19) (lo1 := [some (.ref 40), none, none]) (st1 := [.ref 40]) (μ1 := pm_set μ 40 6 (nI (s + 1))) (vc := True) rfl (by decide +kernel) rfl trivial ?_
      refine pm_callV2 mi_X1_takeDigit (ix := 46) (b := 40) (ci := 1) (kc2 := 0) (ks2 := 0) (As := []) (rest := []) (c_X1_takeDigit (s := s + 1) (pm_set μ 40 6 (nI (s + 1))) hT1 hd) cal_X1_takeDigit lk1_46 (by decide +kernel) rfl (by decide +kernel) rfl rfl rfl rfl (Nat.le_of_ble_eq_true rfl) (by decide) (by decide) (fun _ _ h9 => h9.elim) ?_
      rintro _ _ ⟨rfl, h9⟩; rw [h9]; clear h9
      show pm_V _ _ _ _ 22 _ [.int (lr_hr t n (s + 1) - 48)] _
      refine pm_bl [(.istore_n 1, 1, 1, 0, 0)] (pc1 := 23) (lo1 := [some (.ref 40), some (.int (lr_hr t n (s + 1) - 48)), none]) (st1 := []) (μ1 := pm_set (pm_set μ 40 6 (nI (s + 1))) 40 6 (nI (s + 2))) (vc := True) rfl (by decide +kernel) rfl trivial ?_
      obtain ⟨q, hq⟩ : ∃ q, q = lr_let t n s := ⟨_, rfl⟩
      rw [← hq]
      unfold lr_let at hq
      rw [if_pos h, if_pos hd] at hq
      by_cases h1 : 0 < lr_hr t n (s + 1) - 48
      · by_cases h2 : lr_in (lr_hr t n (s + 2)) 48 57 = true
        · rw [if_pos ⟨h1, h2⟩] at hq
          exact t_rl1_y (s := s + 2) q _ hk22 hk2 hT2 hF2 h1 h2 hq
        · rw [if_neg (fun c => h2 c.2)] at hq
          exact t_rl1_n (s := s + 2) q _ hk22 hk2 hT2 hF2 h1 (by rw [Bool.not_eq_true] at h2; exact h2) hq
      · rw [if_neg (fun c => h1 c.1)] at hq
        exact t_rl1_z (s := s + 2) q _ hk22 hk2 hT2 hF2 h1 hq
    · rw [Bool.not_eq_true] at hd
      refine pm_bl [(.aload_n 0, 1, 0, 0, 0), (.bipush 112, 2, 0, 0, 112)] (pc1 := 3) (lo1 := [some (.ref 40), none, none]) (st1 := [.int 112, .ref 40]) (μ1 := μ) (vc := True) rfl (by decide +kernel) rfl trivial ?_
      refine pm_callV2 mi_X1_skip (ix := 39) (b := 40) (ci := 1) (kc2 := 0) (ks2 := 0) (As := [.int 112]) (rest := []) (c_X1_skip_y (by decide) μ hT h) cal_X1_skip lk1_39 (by decide +kernel) rfl (by decide +kernel) rfl rfl rfl rfl (Nat.le_of_ble_eq_true rfl) (by decide) (by decide) (fun _ _ h9 => h9.elim) ?_
      rintro _ _ ⟨rfl, h9⟩; rw [h9]; clear h9
      show pm_V _ _ _ _ 6 _ [.int 1] _
      refine pm_if_eq (off := 10) 16 (by decide +kernel) (by decide) (fun h9 => absurd h9 (by decide)) (fun _ => ?_)
      refine pm_bl [(.aload_n 0, 1, 0, 0, 0)] (pc1 := 10) (lo1 := [some (.ref 40), none, none]) (st1 := [.ref 40]) (μ1 := pm_set μ 40 6 (nI (s + 1))) (vc := True) rfl (by decide +kernel) rfl trivial ?_
      refine pm_callV2 mi_X1_isDigit (ix := 43) (b := 40) (ci := 1) (kc2 := 0) (ks2 := 0) (As := []) (rest := []) (c_X1_isDigit (s := s + 1) (pm_set μ 40 6 (nI (s + 1))) hT1) cal_X1_isDigit lk1_43 (by decide +kernel) rfl (by decide +kernel) rfl rfl rfl rfl (Nat.le_of_ble_eq_true rfl) (by decide) (by decide) (fun _ _ h9 => h9.elim) ?_
      rintro _ _ ⟨rfl, h9⟩; rw [h9, hd]; clear h9
      show pm_V _ _ _ _ 13 _ [.int 0] _
      refine pm_if_ne (off := 5) 18 (by decide +kernel) (by decide) (fun h9 => absurd h9 (by decide)) (fun _ => ?_)
      refine pm_bl [(.iconst 0, 1, 0, 0, 0)] (pc1 := 17) (lo1 := [some (.ref 40), none, none]) (st1 := [.int 0]) (μ1 := pm_set μ 40 6 (nI (s + 1))) (vc := True) rfl (by decide +kernel) rfl trivial ?_
      exact pm_iret (ty := .boolean) rfl (rfl) (by decide) (by decide) (by decide +kernel) (by unfold lr_let lr_Cq; rw [if_pos h, if_neg (by rw [hd]; decide)]; exact ⟨hT1, hF1, fun _ => ⟨rfl, hk1⟩, fun _ _ _ e => absurd e (by simp)⟩)
  · refine pm_bl [(.aload_n 0, 1, 0, 0, 0), (.bipush 112, 2, 0, 0, 112)] (pc1 := 3) (lo1 := [some (.ref 40), none, none]) (st1 := [.int 112, .ref 40]) (μ1 := μ) (vc := True) rfl (by decide +kernel) rfl trivial ?_
    refine pm_callV2 mi_X1_skip (ix := 39) (b := 40) (ci := 1) (kc2 := 0) (ks2 := 0) (As := [.int 112]) (rest := []) (c_X1_skip_n (by decide) μ hT h) cal_X1_skip lk1_39 (by decide +kernel) rfl (by decide +kernel) rfl rfl rfl rfl (Nat.le_of_ble_eq_true rfl) (by decide) (by decide) (fun _ _ h9 => h9.elim) ?_
    rintro _ _ ⟨rfl, h9⟩; rw [h9]; clear h9
    show pm_V _ _ _ _ 6 _ [.int 0] _
    refine pm_if_eq (off := 10) 16 (by decide +kernel) (by decide) (fun _ => ?_) (fun h9 => absurd h9 (by decide))
    refine pm_bl [(.iconst 0, 1, 0, 0, 0)] (pc1 := 17) (lo1 := [some (.ref 40), none, none]) (st1 := [.int 0]) (μ1 := μ) (vc := True) rfl (by decide +kernel) rfl trivial ?_
    exact pm_iret (ty := .boolean) rfl (rfl) (by decide) (by decide) (by decide +kernel) (by unfold lr_let lr_Cq; rw [if_neg h]; exact ⟨hT, lr_Fk.rf, fun _ => ⟨rfl, hk⟩, fun _ _ _ e => absurd e (by simp)⟩)
/-- the class's rows tell the letters A -/
def lr_Tc (f : Nat → Nat → Int32) (A : List (Int32 × Int32 × Int32)) : Prop := ∀ i x, A[i]? = some x → f 41 i = x.1 ∧ f 42 i = x.2.1 ∧ f 43 i = x.2.2
theorem lr_Tc.add {f f2 : Nat → Nat → Int32} {A : List (Int32 × Int32 × Int32)} {x : Int32 × Int32 × Int32} (h : lr_Tc f A) (ho : ∀ i j, 41 ≤ i → i ≤ 43 → j < A.length → f2 i j = f i j) (h1 : f2 41 A.length = x.1) (h2 : f2 42 A.length = x.2.1) (h3 : f2 43 A.length = x.2.2) : lr_Tc f2 (A ++ [x]) := by
  intro i y hy
  by_cases c : i < A.length
  · rw [List.getElem?_append_left c] at hy
    rw [ho _ _ (by omega) (by omega) c, ho _ _ (by omega) (by omega) c, ho _ _ (by omega) (by omega) c]
    exact h i y hy
  · rw [List.getElem?_append_right (by omega)] at hy
    by_cases e : i = A.length
    · subst e
      rw [Nat.sub_self] at hy
      have : x = y := by simpa using hy
      rw [← this]; exact ⟨h1, h2, h3⟩
    · rw [List.getElem?_eq_none (by simp; omega)] at hy; exact absurd hy (by simp)
theorem lr_Fk.tr0 {μ0 a b : pm_Mm} {k : Nat} (h1 : lr_Fk μ0 0 a) (h2 : lr_Fk a k b) : lr_Fk μ0 0 b := ⟨fun i j h3 h4 => (h2.1 i j h3 h4).trans (h1.1 i j h3 h4), h2.2.1.trans h1.2.1, fun i j _ _ hj => absurd hj (by omega)⟩
/-- the class's answer to a text -/
def lr_Cr (R : Int32 × List (Int32 × Int32 × Int32)) (μ0 : pm_Mm) (v : Option Value) (μ2 : pm_Mm) : Prop := v = some (.int R.1) ∧ lr_Fk μ0 0 μ2 ∧ (R.1 = -1 → μ2.1 40 1 = nI R.2.length ∧ lr_Tc μ2.1 R.2 ∧ R.2.length ≤ 13)
set_option maxHeartbeats 4000000 in
set_option maxRecDepth 100000 in
theorem l_X1_read {t : Nat → Int32} {n : Nat} {μ0 : pm_Mm} {R : Int32 × List (Int32 × Int32 × Int32)} : ∀ (f i s : Nat) (A : List (Int32 × Int32 × Int32)) (μ1 : pm_Mm), i + f = 40 → s ≤ n → lr_Ty t n s μ1 → μ1.1 40 1 = nI A.length → 3 * A.length ≤ s → lr_Tc μ1.1 A → lr_Fk μ0 0 μ1 → R = lr_rd t n f s A → pm_V mi_X1_read (lr_Cr R μ0, pm_NX, fun _ _ _ => True) 0 0 12 [some (.ref 40), some (.int (nI i))] [] μ1 := by
  intro f
  induction f with
  | zero =>
    intro i s A μ1 hi hsn hT h1 h3 hTc hF hR
    refine pm_bl [(.iload_n 1, 1, 1, 0, 0), (.bipush 40, 2, 0, 0, 40)] (pc1 := 15) (lo1 := [some (.ref 40), some (.int (nI i))]) (st1 := [.int 40, .int (nI i)]) (μ1 := μ1) (vc := True) rfl (by decide +kernel) rfl trivial ?_
    refine pm_icmp_ge (off := 48) 63 (by decide +kernel) (by decide) (fun (h15 : 40 ≤ (nI i)) => ?_) (fun (h9 : ¬ (40 ≤ (nI i))) => absurd (nI_le (a := 40) (by omega) (by omega)) h9)
    refine pm_bl [(.aload_n 0, 1, 0, 0, 0), (.getfield 32, 3, 1, 6, 0)] (pc1 := 67) (lo1 := [some (.ref 40), some (.int (nI i))]) (st1 := [.int (μ1.1 40 6)]) (μ1 := μ1) (vc := True) rfl (by decide +kernel) rfl trivial ?_
    rw [hT.1]
    exact pm_iret (ty := .int) rfl rfl (by decide) (by decide) (by decide +kernel) (by have hs40 := hT.2.2.2.1; rw [hR]; exact ⟨rfl, hF, fun e => absurd e (lr_ne1 (by omega))⟩)
  | succ f ih =>
    intro i s A μ1 hi hsn hT h1 h3 hTc hF hR
    have hn40 := hT.2.2.1
    have hcall := c_X1_readLetter (k := A.length) (s := s) μ1 h1 (by omega) hT
    simp only [lr_rd] at hR
    rcases hq : lr_let t n s with ⟨r, s2⟩
    rw [hq] at hcall hR
    rcases r with _ | x
    · simp only at hR
      refine pm_bl [(.iload_n 1, 1, 1, 0, 0), (.bipush 40, 2, 0, 0, 40)] (pc1 := 15) (lo1 := [some (.ref 40), some (.int (nI i))]) (st1 := [.int 40, .int (nI i)]) (μ1 := μ1) (vc := True) rfl (by decide +kernel) rfl trivial ?_
      refine pm_icmp_ge (off := 48) 63 (by decide +kernel) (by decide) (fun (h9 : 40 ≤ (nI i)) => absurd h9 (nI_ge (b := 40) (by omega) (by omega))) (fun (h15 : ¬ (40 ≤ (nI i))) => ?_)
      refine pm_bl [(.aload_n 0, 1, 0, 0, 0)] (pc1 := 19) (lo1 := [some (.ref 40), some (.int (nI i))]) (st1 := [.ref 40]) (μ1 := μ1) (vc := True) rfl (by decide +kernel) rfl trivial ?_
      refine pm_callV2 mi_X1_readLetter (ix := 35) (b := 40) (ci := 1) (kc2 := 0) (ks2 := 0) (As := []) (rest := []) hcall cal_X1_readLetter lk1_35 (by decide +kernel) rfl (by decide +kernel) rfl rfl rfl rfl (Nat.le_of_ble_eq_true rfl) (by decide) (by decide) (fun _ _ h9 => h9.elim) ?_
      rintro v9 μ3 ⟨hT3, hF3, hN3, hS3⟩
      obtain ⟨rfl, h153⟩ := hN3 rfl
      simp only at hT3
      show pm_V _ _ _ _ 22 _ [.int 0] _
      refine pm_if_ne (off := 8) 30 (by decide +kernel) (by decide) (fun h9 => absurd h9 (by decide)) (fun _ => ?_)
      refine pm_bl [(.aload_n 0, 1, 0, 0, 0), (.getfield 32, 3, 1, 6, 0)] (pc1 := 29) (lo1 := [some (.ref 40), some (.int (nI i))]) (st1 := [.int (μ3.1 40 6)]) (μ1 := μ3) (vc := True) rfl (by decide +kernel) rfl trivial ?_
      rw [hT3.1]
      exact pm_iret (ty := .int) rfl rfl (by decide) (by decide) (by decide +kernel) (by rw [hR]; have q40 := hT3.2.2.2.1; exact ⟨rfl, hF.tr0 hF3, fun e => absurd e (lr_ne1 (by omega))⟩)
    · simp only at hR
      obtain ⟨g1, g2, g3⟩ := lr_let_rng hq
      refine pm_bl [(.iload_n 1, 1, 1, 0, 0), (.bipush 40, 2, 0, 0, 40)] (pc1 := 15) (lo1 := [some (.ref 40), some (.int (nI i))]) (st1 := [.int 40, .int (nI i)]) (μ1 := μ1) (vc := True) rfl (by decide +kernel) rfl trivial ?_
      refine pm_icmp_ge (off := 48) 63 (by decide +kernel) (by decide) (fun (h9 : 40 ≤ (nI i)) => absurd h9 (nI_ge (b := 40) (by omega) (by omega))) (fun (h15 : ¬ (40 ≤ (nI i))) => ?_)
      refine pm_bl [(.aload_n 0, 1, 0, 0, 0)] (pc1 := 19) (lo1 := [some (.ref 40), some (.int (nI i))]) (st1 := [.ref 40]) (μ1 := μ1) (vc := True) rfl (by decide +kernel) rfl trivial ?_
      refine pm_callV2 mi_X1_readLetter (ix := 35) (b := 40) (ci := 1) (kc2 := 0) (ks2 := 0) (As := []) (rest := []) hcall cal_X1_readLetter lk1_35 (by decide +kernel) rfl (by decide +kernel) rfl rfl rfl rfl (Nat.le_of_ble_eq_true rfl) (by decide) (by decide) (fun _ _ h9 => h9.elim) ?_
      rintro v9 μ3 ⟨hT3, hF3, hN3, hS3⟩
      obtain ⟨rfl, h153, t1, t2, t3⟩ := hS3 x.1 x.2.1 x.2.2 rfl
      have hTc3 := hTc.add (f2 := μ3.1) hF3.2.2 t1 t2 t3
      have hF03 := hF.tr0 hF3
      simp only at hT3
      show pm_V _ _ _ _ 22 _ [.int 1] _
      refine pm_if_ne (off := 8) 30 (by decide +kernel) (by decide) (fun _ => ?_) (fun h9 => absurd h9 (by decide))
      by_cases e9 : s2 = n
      · refine pm_bl [(.aload_n 0, 1, 0, 0, 0), (.getfield 32, 3, 1, 6, 0)] (pc1 := 34) (lo1 := [some (.ref 40), some (.int (nI i))]) (st1 := [.int (μ3.1 40 6)]) (μ1 := μ3) (vc := True) rfl (by decide +kernel) rfl trivial ?_
        rw [hT3.1]
        refine pm_bl [(.aload_n 0, 1, 0, 0, 0), (.getfield 9, 3, 1, 0, 0)] (pc1 := 38) (lo1 := [some (.ref 40), some (.int (nI i))]) (st1 := [.int (μ3.1 40 0), .int (nI s2)]) (μ1 := μ3) (vc := True) rfl (by decide +kernel) rfl trivial ?_
        rw [hT3.2.1]
        refine pm_icmp_ne (off := 5) 43 (by decide +kernel) (by decide) (fun (h9 : ¬ (nI s2) = (nI n)) => absurd (congrArg nI e9) h9) (fun (h38 : (nI s2) = (nI n)) => ?_)
        refine pm_bl [(.iconst (-1), 1, 0, 0, (-1))] (pc1 := 42) (lo1 := [some (.ref 40), some (.int (nI i))]) (st1 := [.int (-1)]) (μ1 := μ3) (vc := True) rfl (by decide +kernel) rfl trivial ?_
        exact pm_iret (ty := .int) rfl rfl (by decide) (by decide) (by decide +kernel) (by rw [if_pos e9] at hR; rw [hR]; exact ⟨rfl, hF03, fun _ => ⟨by rw [List.length_append]; exact h153, hTc3, by rw [List.length_append]; show A.length + 1 ≤ 13; omega⟩⟩)
      · by_cases h44 : lr_hr t n s2 = 44
        · refine pm_bl [(.aload_n 0, 1, 0, 0, 0), (.getfield 32, 3, 1, 6, 0)] (pc1 := 34) (lo1 := [some (.ref 40), some (.int (nI i))]) (st1 := [.int (μ3.1 40 6)]) (μ1 := μ3) (vc := True) rfl (by decide +kernel) rfl trivial ?_
          rw [hT3.1]
          refine pm_bl [(.aload_n 0, 1, 0, 0, 0), (.getfield 9, 3, 1, 0, 0)] (pc1 := 38) (lo1 := [some (.ref 40), some (.int (nI i))]) (st1 := [.int (μ3.1 40 0), .int (nI s2)]) (μ1 := μ3) (vc := True) rfl (by decide +kernel) rfl trivial ?_
          rw [hT3.2.1]
          refine pm_icmp_ne (off := 5) 43 (by decide +kernel) (by decide) (fun (h38 : ¬ (nI s2) = (nI n)) => ?_) (fun (h9 : (nI s2) = (nI n)) => absurd ((nI_eq (by omega) (by omega)).mp h9) e9)
          refine pm_bl [(.aload_n 0, 1, 0, 0, 0), (.bipush 44, 2, 0, 0, 44)] (pc1 := 46) (lo1 := [some (.ref 40), some (.int (nI i))]) (st1 := [.int 44, .ref 40]) (μ1 := μ3) (vc := True) rfl (by decide +kernel) rfl trivial ?_
          refine pm_callV2 mi_X1_skip (ix := 39) (b := 40) (ci := 1) (kc2 := 0) (ks2 := 0) (As := [.int 44]) (rest := []) (c_X1_skip_y (s := s2) (by decide) μ3 hT3 h44) cal_X1_skip lk1_39 (by decide +kernel) rfl (by decide +kernel) rfl rfl rfl rfl (Nat.le_of_ble_eq_true rfl) (by decide) (by decide) (fun _ _ h9 => h9.elim) ?_
          rintro _ _ ⟨rfl, h9⟩; rw [h9]; clear h9
          show pm_V _ _ _ _ 49 _ [.int 1] _
          refine pm_if_ne (off := 8) 57 (by decide +kernel) (by decide) (fun _ => ?_) (fun h9 => absurd h9 (by decide))
          refine pm_bl [(.iinc 1 1, 3, 1, 0, 1), (.goto (-48), 3, 12, 0, 0)] (pc1 := 12) (lo1 := [some (.ref 40), some (.int ((nI i) + 1))]) (st1 := []) (μ1 := pm_set μ3 40 6 (nI (s2 + 1))) (vc := True) rfl (by decide +kernel) rfl trivial ?_
          have hlt := lr_hr_lt (t := t) (n := n) (s := s2) (by rw [h44]; decide)
          rw [if_neg e9, if_pos h44] at hR
          rw [nI_1]
          refine ih (i + 1) (s2 + 1) (A ++ [x]) _ (by omega) (by omega) (hT3.set (by omega)) (by rw [pm_set_miss (Or.inr (by decide)), List.length_append]; exact h153) (by rw [List.length_append]; show 3 * (A.length + 1) ≤ _; omega) (fun i y hy => by rw [pm_set_off (by decide), pm_set_off (by decide), pm_set_off (by decide)]; exact hTc3 i y hy) (hF03.st (Or.inr ⟨rfl, Or.inr rfl⟩)) hR
        · refine pm_bl [(.aload_n 0, 1, 0, 0, 0), (.getfield 32, 3, 1, 6, 0)] (pc1 := 34) (lo1 := [some (.ref 40), some (.int (nI i))]) (st1 := [.int (μ3.1 40 6)]) (μ1 := μ3) (vc := True) rfl (by decide +kernel) rfl trivial ?_
          rw [hT3.1]
          refine pm_bl [(.aload_n 0, 1, 0, 0, 0), (.getfield 9, 3, 1, 0, 0)] (pc1 := 38) (lo1 := [some (.ref 40), some (.int (nI i))]) (st1 := [.int (μ3.1 40 0), .int (nI s2)]) (μ1 := μ3) (vc := True) rfl (by decide +kernel) rfl trivial ?_
          rw [hT3.2.1]
          refine pm_icmp_ne (off := 5) 43 (by decide +kernel) (by decide) (fun (h38 : ¬ (nI s2) = (nI n)) => ?_) (fun (h9 : (nI s2) = (nI n)) => absurd ((nI_eq (by omega) (by omega)).mp h9) e9)
          refine pm_bl [(.aload_n 0, 1, 0, 0, 0), (.bipush 44, 2, 0, 0, 44)] (pc1 := 46) (lo1 := [some (.ref 40), some (.int (nI i))]) (st1 := [.int 44, .ref 40]) (μ1 := μ3) (vc := True) rfl (by decide +kernel) rfl trivial ?_
          refine pm_callV2 mi_X1_skip (ix := 39) (b := 40) (ci := 1) (kc2 := 0) (ks2 := 0) (As := [.int 44]) (rest := []) (c_X1_skip_n (s := s2) (by decide) μ3 hT3 h44) cal_X1_skip lk1_39 (by decide +kernel) rfl (by decide +kernel) rfl rfl rfl rfl (Nat.le_of_ble_eq_true rfl) (by decide) (by decide) (fun _ _ h9 => h9.elim) ?_
          rintro _ _ ⟨rfl, h9⟩; rw [h9]; clear h9
          show pm_V _ _ _ _ 49 _ [.int 0] _
          refine pm_if_ne (off := 8) 57 (by decide +kernel) (by decide) (fun h9 => absurd h9 (by decide)) (fun _ => ?_)
          refine pm_bl [(.aload_n 0, 1, 0, 0, 0), (.getfield 32, 3, 1, 6, 0)] (pc1 := 56) (lo1 := [some (.ref 40), some (.int (nI i))]) (st1 := [.int (μ3.1 40 6)]) (μ1 := μ3) (vc := True) rfl (by decide +kernel) rfl trivial ?_
          rw [hT3.1]
          exact pm_iret (ty := .int) rfl rfl (by decide) (by decide) (by decide +kernel) (by rw [if_neg e9, if_neg h44] at hR; rw [hR]; exact ⟨rfl, hF03, fun e => absurd e (lr_ne1 (by omega))⟩)
set_option maxHeartbeats 4000000 in
set_option maxRecDepth 100000 in
theorem c_X1_read {t : Nat → Int32} {n : Nat} (μ : pm_Mm) (h0 : μ.1 40 0 = nI n) (hn : n ≤ 40) (ht : ∀ i, i < n → μ.1 44 i = t i) : pm_CT mi_X1_read [.ref 40] μ (lr_Cr (lr_rd t n 40 0 []) μ) pm_NX := by
  refine pm_CT_of (lo := [some (.ref 40), none]) (by decide +kernel) rfl rfl (by intro v hv; simp at hv; rcases hv with rfl <;> rfl) (Nat.le_of_ble_eq_true rfl) rfl ?_
  refine pm_bl [(.aload_n 0, 1, 0, 0, 0), (.iconst 0, 1, 0, 0, 0), (.putfield 32, 3, 1, 6, 0), (.aload_n 0, 1, 0, 0, 0), (.iconst 0, 1, 0, 0, 0), (.putfield 15, 3, 1, 1, 0), (.iconst 0, 1, 0, 0, 0), (.istore_n 1, 1, 1, 0, 0)] (pc1 := 12) (lo1 := [some (.ref 40), some (.int 0)]) (st1 := []) (μ1 := pm_set (pm_set μ 40 6 0) 40 1 0) (vc := True) rfl (by decide +kernel) rfl trivial ?_
  refine l_X1_read (t := t) (n := n) 40 0 0 [] _ rfl (by omega) ⟨?_, ?_, hn, by omega, fun i hi => by rw [pm_set_off (by decide), pm_set_off (by decide)]; exact ht i hi⟩ (by rw [pm_set_hit]; rfl) (by decide) (fun i x h => absurd h (by simp)) ((lr_Fk.rf.st (Or.inr ⟨rfl, Or.inr rfl⟩)).st (Or.inr ⟨rfl, Or.inl rfl⟩)) rfl
  · rw [pm_set_miss (Or.inr (by decide)), pm_set_hit]; rfl
  · rw [pm_set_miss (Or.inr (by decide)), pm_set_miss (Or.inr (by decide))]; exact h0
/-- enough steps read the same -/
theorem lr_rd_fuel {t : Nat → Int32} {n : Nat} : ∀ (f f2 s : Nat) (A : List (Int32 × Int32 × Int32)), s ≤ n → n < s + 3 * f → n < s + 3 * f2 → lr_rd t n f s A = lr_rd t n f2 s A := by
  intro f
  induction f with
  | zero => intro f2 s A h1 h2; omega
  | succ f ih =>
    intro f2 s A h1 h2 h3
    cases f2 with
    | zero => omega
    | succ f2 =>
      simp only [lr_rd]
      rcases hq : lr_let t n s with ⟨r, s2⟩
      rcases r with _ | x
      · rfl
      · obtain ⟨g1, g2, -⟩ := lr_let_rng hq
        simp only
        split
        · rfl
        · split
          · rename_i c
            have := lr_hr_lt (t := t) (n := n) (s := s2) (by rw [c]; decide)
            exact ih f2 (s2 + 1) _ (by omega) (by omega) (by omega)
          · rfl
