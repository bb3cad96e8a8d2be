/-! the model: one letter of a text -/
theorem lr_hr_lt {t : Nat → Int32} {n s : Nat} (h : ¬ lr_hr t n s = -1) : s < n := by
  unfold lr_hr at h; exact Classical.byContradiction fun c => h (by rw [if_neg c])
theorem lr_hr_dg {t : Nat → Int32} {n s : Nat} {a : Int32} (ha : a = 48 ∨ a = 49) (h : lr_in (lr_hr t n s) a 57 = true) : s < n := by
  refine lr_hr_lt (t := t) (fun e => ?_)
  rw [e] at h
  rcases ha with rfl | rfl <;> exact absurd h (by decide)
def lr_let3 (t : Nat → Int32) (n : Nat) (pe we : Int32) (s : Nat) : Option (Int32 × Int32 × Int32) × Nat := (some (pe, we, if lr_hr t n s = 114 then 1 else 0), if lr_hr t n s = 114 then s + 1 else s)
def lr_let2 (t : Nat → Int32) (n : Nat) (pe : Int32) (s : Nat) : Option (Int32 × Int32 × Int32) × Nat := if lr_hr t n s = 119 then (if lr_in (lr_hr t n (s + 1)) 49 57 = true then lr_let3 t n pe (lr_hr t n (s + 1) - 48) (s + 2) else (none, s + 1)) else lr_let3 t n pe 1 s
/-- one letter read at s: what it says, and where it ends or is wrong -/
def lr_let (t : Nat → Int32) (n s : Nat) : Option (Int32 × Int32 × Int32) × Nat := if lr_hr t n s = 112 then (if lr_in (lr_hr t n (s + 1)) 48 57 = true then (if 0 < lr_hr t n (s + 1) - 48 ∧ lr_in (lr_hr t n (s + 2)) 48 57 = true then lr_let2 t n (10 * (lr_hr t n (s + 1) - 48) + lr_hr t n (s + 2) - 48) (s + 3) else lr_let2 t n (lr_hr t n (s + 1) - 48) (s + 2)) else (none, s + 1)) else (none, s)
/-- what a letter read may move -/
def lr_Fa (μ0 : pm_Mm) (k : Nat) (μ : pm_Mm) : Prop := (∀ i j, i ≠ 54 → ¬ (i = 47 ∧ (j = 12 ∨ j = 15)) → μ.1 i j = μ0.1 i j) ∧ μ.2 = μ0.2 ∧ ∀ j, j < 3 * k → μ.1 54 j = μ0.1 54 j
theorem lr_Fa.rf {μ0 : pm_Mm} {k : Nat} : lr_Fa μ0 k μ0 := ⟨fun _ _ _ _ => rfl, rfl, fun _ _ => rfl⟩
theorem lr_Fa.st {μ0 μ : pm_Mm} {k r j : Nat} {v : Int32} (h : lr_Fa μ0 k μ) (hr : (r = 54 ∧ 3 * k ≤ j) ∨ (r = 47 ∧ (j = 12 ∨ j = 15))) : lr_Fa μ0 k (pm_set μ r j v) := by
  refine ⟨fun i x h1 h2 => ?_, h.2.1, fun x hx => ?_⟩
  · show (if i = r ∧ x = j then v else μ.1 i x) = _
    rw [if_neg (by omega)]; exact h.1 i x h1 h2
  · show (if 54 = r ∧ x = j then v else μ.1 54 x) = _
    rw [if_neg (by omega)]; exact h.2.2 x hx
/-- the model's answer to one letter -/
def lr_Aq (t : Nat → Int32) (n : Nat) (μ0 : pm_Mm) (k : Nat) (q : Option (Int32 × Int32 × Int32) × Nat) (v : Option Value) (μ2 : pm_Mm) : Prop := lr_Tx t n q.2 μ2 ∧ lr_Fa μ0 k μ2 ∧ (q.1 = none → v = some (.int 0) ∧ μ2.1 47 15 = nI k) ∧ (∀ a b c, q.1 = some (a, b, c) → v = some (.int 1) ∧ μ2.1 47 15 = nI (k + 1) ∧ μ2.1 54 (3 * k) = a ∧ μ2.1 54 (3 * k + 1) = b ∧ μ2.1 54 (3 * k + 2) = c)
theorem c_X10_digitx {t : Nat → Int32} {n s a : Nat} {x : Int32} (y : Int32) (hx : x = nI a) (μ : pm_Mm) (hT : lr_Tx t n s μ) (ha : a < 48) (hd : lr_in (lr_hr t n s) (48 + y) 57 = true) : pm_CT mi_X10_digit [.ref 47, .int x, .int y] μ (fun v μ2 => v = some (.int 1) ∧ μ2 = pm_set (pm_set μ 54 a (10 * μ.1 54 a + lr_hr t n s - 48)) 47 12 (nI (s + 1))) pm_NX := by
  subst hx; exact c_X10_digit y μ hT ha hd
theorem c_X10_skips_y {t : Nat → Int32} {n s : Nat} {c : Int32} (hc : ¬ c = -1) (μ : pm_Mm) (hT : lr_Tx t n s μ) (h : lr_hr t n s = c) : pm_CT mi_X10_skips [.ref 47, .int c] μ (fun v μ2 => v = some (.int 1) ∧ μ2 = pm_set μ 47 12 (nI (s + 1))) pm_NX := by
  have q := c_X10_skips c hc μ hT
  rw [decide_eq_true h, if_pos h] at q
  exact q
theorem c_X10_skips_n {t : Nat → Int32} {n s : Nat} {c : Int32} (hc : ¬ c = -1) (μ : pm_Mm) (hT : lr_Tx t n s μ) (h : ¬ lr_hr t n s = c) : pm_CT mi_X10_skips [.ref 47, .int c] μ (fun v μ2 => v = some (.int 0) ∧ μ2 = pm_set μ 47 12 (nI s)) pm_NX := by
  have q := c_X10_skips c hc μ hT
  rw [decide_eq_false h, if_neg h] at q
  exact q
set_option maxHeartbeats 4000000 in
set_option maxRecDepth 100000 in
theorem t_arr3_y {t : Nat → Int32} {n a k : Nat} {μ0 : pm_Mm} (q : Option (Int32 × Int32 × Int32) × Nat) {s : Nat} {pe we : Int32} (ha : a = 3 * k) (ha2 : a + 2 < 48) (μ : pm_Mm) (hT : lr_Tx t n s μ) (h15 : μ.1 47 15 = nI k) (hpe : μ.1 54 a = pe) (hwe : μ.1 54 (a + 1) = we) (hF : lr_Fa μ0 k μ) (h : lr_hr t n s = 114) (hq : q = lr_let3 t n pe we s) : pm_V mi_X10_arrival (lr_Aq t n μ0 k q, pm_NX, fun _ _ _ => True) 0 0 92 [some (.ref 47), some (.int (nI a))] [] μ := by
  subst ha
  have hs := hT.2.2.2.1; have hn := hT.2.2.1
  have hsn := lr_hr_lt (t := t) (n := n) (s := s) (by rw [h]; decide)
  have ek := hF
  refine pm_bl [(.aload_n 0, 1, 0, 0, 0), (.getfield 32, 3, 10, 14, 0), (.iload_n 1, 1, 1, 0, 0), (.iconst 2, 1, 0, 0, 2), (.iadd, 1, 0, 0, 0)] (pc1 := 99) (lo1 := [some (.ref 47), some (.int (nI (3 * k)))]) (st1 := [.int ((nI (3 * k)) + 2), .ref 54]) (μ1 := μ) (vc := True) rfl (by decide +kernel) rfl trivial ?_
  refine pm_bl [(.aload_n 0, 1, 0, 0, 0), (.bipush 114, 2, 0, 0, 114)] (pc1 := 102) (lo1 := [some (.ref 47), some (.int (nI (3 * k)))]) (st1 := [.int 114, .ref 47, .int ((nI (3 * k)) + 2), .ref 54]) (μ1 := μ) (vc := True) rfl (by decide +kernel) rfl trivial ?_
  refine pm_callV2 mi_X10_skips (ix := 191) (b := 47) (ci := 10) (kc2 := 0) (ks2 := 0) (As := [.int 114]) (rest := [.int ((nI (3 * k)) + 2), .ref 54]) (c_X10_skips_y (s := s) (by decide) μ hT h) cal_X10_skips lk10_191 (by decide +kernel) rfl (by decide +kernel) rfl rfl rfl rfl (Nat.le_of_ble_eq_true rfl) (by decide) (by decide) (fun _ _ h9 => h9.elim) ?_
  rintro _ _ ⟨rfl, h9⟩; rw [h9]; clear h9
  show pm_V _ _ _ _ 105 _ [.int 1, .int ((nI (3 * k)) + 2), .ref 54] _
  refine pm_if_eq (off := 7) 112 (by decide +kernel) (by decide) (fun h9 => absurd h9 (by decide)) (fun _ => ?_)
  refine pm_bl [(.iconst 1, 1, 0, 0, 1), (.goto 4, 3, 113, 0, 0)] (pc1 := 113) (lo1 := [some (.ref 47), some (.int (nI (3 * k)))]) (st1 := [.int 1, .int ((nI (3 * k)) + 2), .ref 54]) (μ1 := pm_set μ 47 12 (nI (s + 1))) (vc := True) rfl (by decide +kernel) rfl trivial ?_
  rw [(show ((nI (3 * k)) + 2 : Int32) = nI (((3 * k)) + 2) from by simp only [nI, Int32.ofNat_add, Int32.ofNat_mul]; rfl).trans (congrArg nI (show ((3 * k)) + 2 = 2 + 3 * k from by omega))]
  refine pm_bl [(.iastore, 1, 0, 0, 0), (.aload_n 0, 1, 0, 0, 0), (.dup, 1, 0, 0, 0), (.getfield 188, 3, 10, 15, 0)] (pc1 := 119) (lo1 := [some (.ref 47), some (.int (nI (3 * k)))]) (st1 := [.int ((pm_set (pm_set μ 47 12 (nI (s + 1))) 54 ((nI (2 + 3 * k)).toNatClampNeg) 1).1 47 15), .ref 47]) (μ1 := pm_set (pm_set μ 47 12 (nI (s + 1))) 54 ((nI (2 + 3 * k)).toNatClampNeg) 1) (vc := vp_in (nI (2 + 3 * k)) 48 ∧ True) rfl (by decide +kernel) rfl ⟨(vp_in_nI (by omega) (by omega)), trivial⟩ ?_
  rw [show (pm_set (pm_set μ 47 12 (nI (s + 1))) 54 ((nI (2 + 3 * k)).toNatClampNeg) 1).1 47 15 = (pm_set μ 47 12 (nI (s + 1))).1 47 15 from by rw [pm_set_miss] <;> omega]
  rw [show (pm_set μ 47 12 (nI (s + 1))).1 47 15 = nI k from by first | exact h15 | (rw [pm_set_off (by decide), pm_set_miss (Or.inr (by decide))]; exact h15)]
  try rw [nI_clamp (n := (2 + 3 * k)) (by omega)]
  refine pm_bl [(.iconst 1, 1, 0, 0, 1), (.iadd, 1, 0, 0, 0), (.putfield 188, 3, 10, 15, 0), (.iconst 1, 1, 0, 0, 1)] (pc1 := 125) (lo1 := [some (.ref 47), some (.int (nI (3 * k)))]) (st1 := [.int 1]) (μ1 := pm_set (pm_set (pm_set μ 47 12 (nI (s + 1))) 54 (2 + 3 * k) 1) 47 15 ((nI k) + 1)) (vc := True) rfl (by decide +kernel) rfl trivial ?_
  exact pm_iret (ty := .boolean) rfl (rfl) (by decide) (by decide) (by decide +kernel) (by
    rw [hq, nI_1]; unfold lr_let3 lr_Aq
    rw [if_pos h, if_pos h]
    refine ⟨((hT.set (s2 := s + 1) (by omega)).tl (Or.inl rfl)).tl (Or.inr ⟨rfl, rfl⟩), ((hF.st (Or.inr ⟨rfl, Or.inl rfl⟩)).st (Or.inl ⟨rfl, by omega⟩)).st (Or.inr ⟨rfl, Or.inr rfl⟩), fun e => absurd e (by simp), fun x y z e => ?_⟩
    obtain ⟨rfl, rfl, rfl⟩ : pe = x ∧ we = y ∧ (1 : Int32) = z := by simpa using e
    refine ⟨rfl, by rw [pm_set_hit], ?_, ?_, ?_⟩
    · rw [pm_set_off (by decide), pm_set_miss (Or.inr (by omega)), pm_set_off (by decide)]; exact hpe
    · rw [pm_set_off (by decide), pm_set_miss (Or.inr (by omega)), pm_set_off (by decide)]; exact hwe
    · rw [pm_set_off (by decide), show 3 * k + 2 = 2 + 3 * k from by omega, pm_set_hit])
set_option maxHeartbeats 4000000 in
set_option maxRecDepth 100000 in
theorem t_arr3_n {t : Nat → Int32} {n a k : Nat} {μ0 : pm_Mm} (q : Option (Int32 × Int32 × Int32) × Nat) {s : Nat} {pe we : Int32} (ha : a = 3 * k) (ha2 : a + 2 < 48) (μ : pm_Mm) (hT : lr_Tx t n s μ) (h15 : μ.1 47 15 = nI k) (hpe : μ.1 54 a = pe) (hwe : μ.1 54 (a + 1) = we) (hF : lr_Fa μ0 k μ) (h : ¬ lr_hr t n s = 114) (hq : q = lr_let3 t n pe we s) : pm_V mi_X10_arrival (lr_Aq t n μ0 k q, pm_NX, fun _ _ _ => True) 0 0 92 [some (.ref 47), some (.int (nI a))] [] μ := by
  subst ha
  have hs := hT.2.2.2.1; have hn := hT.2.2.1
  have ek := hF
  refine pm_bl [(.aload_n 0, 1, 0, 0, 0), (.getfield 32, 3, 10, 14, 0), (.iload_n 1, 1, 1, 0, 0), (.iconst 2, 1, 0, 0, 2), (.iadd, 1, 0, 0, 0)] (pc1 := 99) (lo1 := [some (.ref 47), some (.int (nI (3 * k)))]) (st1 := [.int ((nI (3 * k)) + 2), .ref 54]) (μ1 := μ) (vc := True) rfl (by decide +kernel) rfl trivial ?_
  refine pm_bl [(.aload_n 0, 1, 0, 0, 0), (.bipush 114, 2, 0, 0, 114)] (pc1 := 102) (lo1 := [some (.ref 47), some (.int (nI (3 * k)))]) (st1 := [.int 114, .ref 47, .int ((nI (3 * k)) + 2), .ref 54]) (μ1 := μ) (vc := True) rfl (by decide +kernel) rfl trivial ?_
  refine pm_callV2 mi_X10_skips (ix := 191) (b := 47) (ci := 10) (kc2 := 0) (ks2 := 0) (As := [.int 114]) (rest := [.int ((nI (3 * k)) + 2), .ref 54]) (c_X10_skips_n (s := s) (by decide) μ hT h) cal_X10_skips lk10_191 (by decide +kernel) rfl (by decide +kernel) rfl rfl rfl rfl (Nat.le_of_ble_eq_true rfl) (by decide) (by decide) (fun _ _ h9 => h9.elim) ?_
  rintro _ _ ⟨rfl, h9⟩; rw [h9]; clear h9
  show pm_V _ _ _ _ 105 _ [.int 0, .int ((nI (3 * k)) + 2), .ref 54] _
  refine pm_if_eq (off := 7) 112 (by decide +kernel) (by decide) (fun _ => ?_) (fun h9 => absurd h9 (by decide))
  refine pm_bl [(.iconst 0, 1, 0, 0, 0)] (pc1 := 113) (lo1 := [some (.ref 47), some (.int (nI (3 * k)))]) (st1 := [.int 0, .int ((nI (3 * k)) + 2), .ref 54]) (μ1 := pm_set μ 47 12 (nI (s))) (vc := True) rfl (by decide +kernel) rfl trivial ?_
  rw [(show ((nI (3 * k)) + 2 : Int32) = nI (((3 * k)) + 2) from by simp only [nI, Int32.ofNat_add, Int32.ofNat_mul]; rfl).trans (congrArg nI (show ((3 * k)) + 2 = 2 + 3 * k from by omega))]
  refine pm_bl [(.iastore, 1, 0, 0, 0), (.aload_n 0, 1, 0, 0, 0), (.dup, 1, 0, 0, 0), (.getfield 188, 3, 10, 15, 0)] (pc1 := 119) (lo1 := [some (.ref 47), some (.int (nI (3 * k)))]) (st1 := [.int ((pm_set (pm_set μ 47 12 (nI (s))) 54 ((nI (2 + 3 * k)).toNatClampNeg) 0).1 47 15), .ref 47]) (μ1 := pm_set (pm_set μ 47 12 (nI (s))) 54 ((nI (2 + 3 * k)).toNatClampNeg) 0) (vc := vp_in (nI (2 + 3 * k)) 48 ∧ True) rfl (by decide +kernel) rfl ⟨(vp_in_nI (by omega) (by omega)), trivial⟩ ?_
  rw [show (pm_set (pm_set μ 47 12 (nI (s))) 54 ((nI (2 + 3 * k)).toNatClampNeg) 0).1 47 15 = (pm_set μ 47 12 (nI (s))).1 47 15 from by rw [pm_set_miss] <;> omega]
  rw [show (pm_set μ 47 12 (nI (s))).1 47 15 = nI k from by first | exact h15 | (rw [pm_set_off (by decide), pm_set_miss (Or.inr (by decide))]; exact h15)]
  try rw [nI_clamp (n := (2 + 3 * k)) (by omega)]
  refine pm_bl [(.iconst 1, 1, 0, 0, 1), (.iadd, 1, 0, 0, 0), (.putfield 188, 3, 10, 15, 0), (.iconst 1, 1, 0, 0, 1)] (pc1 := 125) (lo1 := [some (.ref 47), some (.int (nI (3 * k)))]) (st1 := [.int 1]) (μ1 := pm_set (pm_set (pm_set μ 47 12 (nI (s))) 54 (2 + 3 * k) 0) 47 15 ((nI k) + 1)) (vc := True) rfl (by decide +kernel) rfl trivial ?_
  exact pm_iret (ty := .boolean) rfl (rfl) (by decide) (by decide) (by decide +kernel) (by
    rw [hq, nI_1]; unfold lr_let3 lr_Aq
    rw [if_neg h, if_neg h]
    refine ⟨((hT.set (s2 := s) (by omega)).tl (Or.inl rfl)).tl (Or.inr ⟨rfl, rfl⟩), ((hF.st (Or.inr ⟨rfl, Or.inl rfl⟩)).st (Or.inl ⟨rfl, by omega⟩)).st (Or.inr ⟨rfl, Or.inr rfl⟩), fun e => absurd e (by simp), fun x y z e => ?_⟩
    obtain ⟨rfl, rfl, rfl⟩ : pe = x ∧ we = y ∧ (0 : Int32) = z := by simpa using e
    refine ⟨rfl, by rw [pm_set_hit], ?_, ?_, ?_⟩
    · rw [pm_set_off (by decide), pm_set_miss (Or.inr (by omega)), pm_set_off (by decide)]; exact hpe
    · rw [pm_set_off (by decide), pm_set_miss (Or.inr (by omega)), pm_set_off (by decide)]; exact hwe
    · rw [pm_set_off (by decide), show 3 * k + 2 = 2 + 3 * k from by omega, pm_set_hit])
set_option maxHeartbeats 4000000 in
set_option maxRecDepth 100000 in
theorem t_arr3 {t : Nat → Int32} {n a k : Nat} {μ0 : pm_Mm} (q : Option (Int32 × Int32 × Int32) × Nat) {s : Nat} {pe we : Int32} (ha : a = 3 * k) (ha2 : a + 2 < 48) (μ : pm_Mm) (hT : lr_Tx t n s μ) (h15 : μ.1 47 15 = nI k) (hpe : μ.1 54 a = pe) (hwe : μ.1 54 (a + 1) = we) (hF : lr_Fa μ0 k μ) (hq : q = lr_let3 t n pe we s) : pm_V mi_X10_arrival (lr_Aq t n μ0 k q, pm_NX, fun _ _ _ => True) 0 0 92 [some (.ref 47), some (.int (nI a))] [] μ := by
  by_cases h : lr_hr t n s = 114
  · exact t_arr3_y q ha ha2 μ hT h15 hpe hwe hF h hq
  · exact t_arr3_n q ha ha2 μ hT h15 hpe hwe hF h hq
set_option maxHeartbeats 4000000 in
set_option maxRecDepth 100000 in
theorem t_arr2_n {t : Nat → Int32} {n a k : Nat} {μ0 : pm_Mm} (q : Option (Int32 × Int32 × Int32) × Nat) {s : Nat} {pe : Int32} (ha : a = 3 * k) (ha2 : a + 2 < 48) (μ : pm_Mm) (hT : lr_Tx t n s μ) (h15 : μ.1 47 15 = nI k) (hpe : μ.1 54 a = pe) (h0 : μ.1 54 (a + 1) = 0) (hF : lr_Fa μ0 k μ) (h : ¬ lr_hr t n s = 119) (hq : q = lr_let2 t n pe s) : pm_V mi_X10_arrival (lr_Aq t n μ0 k q, pm_NX, fun _ _ _ => True) 0 0 61 [some (.ref 47), some (.int (nI a))] [] μ := by
  have hs := hT.2.2.2.1
  refine pm_bl [(.aload_n 0, 1, 0, 0, 0), (.bipush 119, 2, 0, 0, 119)] (pc1 := 64) (lo1 := [some (.ref 47), some (.int (nI a))]) (st1 := [.int 119, .ref 47]) (μ1 := μ) (vc := True) rfl (by decide +kernel) rfl trivial ?_
  refine pm_callV2 mi_X10_skips (ix := 191) (b := 47) (ci := 10) (kc2 := 0) (ks2 := 0) (As := [.int 119]) (rest := []) (c_X10_skips_n (s := s) (by decide) μ hT h) cal_X10_skips lk10_191 (by decide +kernel) rfl (by decide +kernel) rfl rfl rfl rfl (Nat.le_of_ble_eq_true rfl) (by decide) (by decide) (fun _ _ h9 => h9.elim) ?_
  rintro _ _ ⟨rfl, h9⟩; rw [h9]; clear h9
  show pm_V _ _ _ _ 67 _ [.int 0] _
  refine pm_if_eq (off := 16) 83 (by decide +kernel) (by decide) (fun _ => ?_) (fun h9 => absurd h9 (by decide))
  refine pm_bl [(.aload_n 0, 1, 0, 0, 0), (.getfield 32, 3, 10, 14, 0), (.iload_n 1, 1, 1, 0, 0), (.iconst 1, 1, 0, 0, 1), (.iadd, 1, 0, 0, 0), (.iconst 1, 1, 0, 0, 1)] (pc1 := 91) (lo1 := [some (.ref 47), some (.int (nI a))]) (st1 := [.int 1, .int ((nI a) + 1), .ref 54]) (μ1 := pm_set μ 47 12 (nI (s))) (vc := True) rfl (by decide +kernel) rfl trivial ?_
  rw [(show ((nI a) + 1 : Int32) = nI ((a) + 1) from by simp only [nI, Int32.ofNat_add, Int32.ofNat_mul]; rfl).trans (congrArg nI (show (a) + 1 = 1 + a from by omega))]
  refine pm_bl [(.iastore, 1, 0, 0, 0)] (pc1 := 92) (lo1 := [some (.ref 47), some (.int (nI a))]) (st1 := []) (μ1 := pm_set (pm_set μ 47 12 (nI (s))) 54 ((nI (1 + a)).toNatClampNeg) 1) (vc := vp_in (nI (1 + a)) 48 ∧ True) rfl (by decide +kernel) rfl ⟨(vp_in_nI (by omega) (by omega)), trivial⟩ ?_
  try rw [nI_clamp (n := (1 + a)) (by omega)]
  try rw [nI_clamp (n := 1 + a) (by omega)]
  exact t_arr3 (pe := pe) (we := 1) q ha ha2 _ ((hT.set hs).tl (Or.inl rfl)) (by rw [pm_set_off (by decide), pm_set_miss (Or.inr (by decide))]; exact h15) (by rw [pm_set_miss (Or.inr (by omega)), pm_set_off (by decide)]; exact hpe) (by rw [Nat.add_comm a 1, pm_set_hit]) ((hF.st (Or.inr ⟨rfl, Or.inl rfl⟩)).st (Or.inl ⟨rfl, by omega⟩)) (by rw [hq]; unfold lr_let2; rw [if_neg h])
set_option maxHeartbeats 4000000 in
set_option maxRecDepth 100000 in
theorem t_arr2_f {t : Nat → Int32} {n a k : Nat} {μ0 : pm_Mm} (q : Option (Int32 × Int32 × Int32) × Nat) {s : Nat} {pe : Int32} (ha : a = 3 * k) (ha2 : a + 2 < 48) (μ : pm_Mm) (hT : lr_Tx t n s μ) (h15 : μ.1 47 15 = nI k) (hpe : μ.1 54 a = pe) (h0 : μ.1 54 (a + 1) = 0) (hF : lr_Fa μ0 k μ) (h : lr_hr t n s = 119) (hd : lr_in (lr_hr t n (s + 1)) 49 57 = false) (hq : q = lr_let2 t n pe s) : pm_V mi_X10_arrival (lr_Aq t n μ0 k q, pm_NX, fun _ _ _ => True) 0 0 61 [some (.ref 47), some (.int (nI a))] [] μ := by
  have hs := hT.2.2.2.1; have hn := hT.2.2.1
  have hsn := lr_hr_lt (t := t) (n := n) (s := s) (by rw [h]; decide)
  refine pm_bl [(.aload_n 0, 1, 0, 0, 0), (.bipush 119, 2, 0, 0, 119)] (pc1 := 64) (lo1 := [some (.ref 47), some (.int (nI a))]) (st1 := [.int 119, .ref 47]) (μ1 := μ) (vc := True) rfl (by decide +kernel) rfl trivial ?_
  refine pm_callV2 mi_X10_skips (ix := 191) (b := 47) (ci := 10) (kc2 := 0) (ks2 := 0) (As := [.int 119]) (rest := []) (c_X10_skips_y (s := s) (by decide) μ hT h) cal_X10_skips lk10_191 (by decide +kernel) rfl (by decide +kernel) rfl rfl rfl rfl (Nat.le_of_ble_eq_true rfl) (by decide) (by decide) (fun _ _ h9 => h9.elim) ?_
  rintro _ _ ⟨rfl, h9⟩; rw [h9]; clear h9
  show pm_V _ _ _ _ 67 _ [.int 1] _
  refine pm_if_eq (off := 16) 83 (by decide +kernel) (by decide) (fun h9 => absurd h9 (by decide)) (fun _ => ?_)
  refine pm_bl [(.aload_n 0, 1, 0, 0, 0), (.iload_n 1, 1, 1, 0, 0), (.iconst 1, 1, 0, 0, 1), (.iadd, 1, 0, 0, 0), (.iconst 1, 1, 0, 0, 1)] (pc1 := 75) (lo1 := [some (.ref 47), some (.int (nI a))]) (st1 := [.int 1, .int ((nI a) + 1), .ref 47]) (μ1 := pm_set μ 47 12 (nI (s + 1))) (vc := True) rfl (by decide +kernel) rfl trivial ?_
  refine pm_callV2 mi_X10_digit (ix := 194) (b := 47) (ci := 10) (kc2 := 0) (ks2 := 0) (As := [.int ((nI a) + 1), .int 1]) (rest := []) (c_X10_digit_no (s := s + 1) ((nI a) + 1) 1 (pm_set μ 47 12 (nI (s + 1))) (hT.set (by omega)) (show lr_in (lr_hr t n (s + 1)) (48 + 1) 57 = false from hd)) cal_X10_digit lk10_194 (by decide +kernel) rfl (by decide +kernel) rfl rfl rfl rfl (Nat.le_of_ble_eq_true rfl) (by decide) (by decide) (fun _ _ h9 => h9.elim) ?_
  rintro _ _ ⟨rfl, h9⟩; rw [h9]; clear h9
  show pm_V _ _ _ _ 78 _ [.int 0] _
  refine pm_if_ne (off := 14) 92 (by decide +kernel) (by decide) (fun h9 => absurd h9 (by decide)) (fun _ => ?_)
  refine pm_bl [(.iconst 0, 1, 0, 0, 0)] (pc1 := 82) (lo1 := [some (.ref 47), some (.int (nI a))]) (st1 := [.int 0]) (μ1 := pm_set μ 47 12 (nI (s + 1))) (vc := True) rfl (by decide +kernel) rfl trivial ?_
  exact pm_iret (ty := .boolean) rfl (rfl) (by decide) (by decide) (by decide +kernel) (by rw [hq]; unfold lr_let2 lr_Aq; rw [if_pos h, if_neg (by rw [hd]; decide)]; exact ⟨hT.set (by omega), hF.st (Or.inr ⟨rfl, Or.inl rfl⟩), fun _ => ⟨rfl, by rw [pm_set_miss (Or.inr (by decide))]; exact h15⟩, fun _ _ _ e => absurd e (by simp)⟩)
set_option maxHeartbeats 4000000 in
set_option maxRecDepth 100000 in
theorem t_arr2_y {t : Nat → Int32} {n a k : Nat} {μ0 : pm_Mm} (q : Option (Int32 × Int32 × Int32) × Nat) {s : Nat} {pe : Int32} (ha : a = 3 * k) (ha2 : a + 2 < 48) (μ : pm_Mm) (hT : lr_Tx t n s μ) (h15 : μ.1 47 15 = nI k) (hpe : μ.1 54 a = pe) (h0 : μ.1 54 (a + 1) = 0) (hF : lr_Fa μ0 k μ) (h : lr_hr t n s = 119) (hd : lr_in (lr_hr t n (s + 1)) 49 57 = true) (hq : q = lr_let2 t n pe s) : pm_V mi_X10_arrival (lr_Aq t n μ0 k q, pm_NX, fun _ _ _ => True) 0 0 61 [some (.ref 47), some (.int (nI a))] [] μ := by
  have hs := hT.2.2.2.1; have hn := hT.2.2.1
  have hsn := lr_hr_lt (t := t) (n := n) (s := s) (by rw [h]; decide)
  have hsd := lr_hr_dg (Or.inr rfl) hd
  have ei : nI a + 1 = nI (a + 1) := nI_1 a
  refine pm_bl [(.aload_n 0, 1, 0, 0, 0), (.bipush 119, 2, 0, 0, 119)] (pc1 := 64) (lo1 := [some (.ref 47), some (.int (nI a))]) (st1 := [.int 119, .ref 47]) (μ1 := μ) (vc := True) rfl (by decide +kernel) rfl trivial ?_
  refine pm_callV2 mi_X10_skips (ix := 191) (b := 47) (ci := 10) (kc2 := 0) (ks2 := 0) (As := [.int 119]) (rest := []) (c_X10_skips_y (s := s) (by decide) μ hT h) cal_X10_skips lk10_191 (by decide +kernel) rfl (by decide +kernel) rfl rfl rfl rfl (Nat.le_of_ble_eq_true rfl) (by decide) (by decide) (fun _ _ h9 => h9.elim) ?_
  rintro _ _ ⟨rfl, h9⟩; rw [h9]; clear h9
  show pm_V _ _ _ _ 67 _ [.int 1] _
  refine pm_if_eq (off := 16) 83 (by decide +kernel) (by decide) (fun h9 => absurd h9 (by decide)) (fun _ => ?_)
  refine pm_bl [(.aload_n 0, 1, 0, 0, 0), (.iload_n 1, 1, 1, 0, 0), (.iconst 1, 1, 0, 0, 1), (.iadd, 1, 0, 0, 0), (.iconst 1, 1, 0, 0, 1)] (pc1 := 75) (lo1 := [some (.ref 47), some (.int (nI a))]) (st1 := [.int 1, .int ((nI a) + 1), .ref 47]) (μ1 := pm_set μ 47 12 (nI (s + 1))) (vc := True) rfl (by decide +kernel) rfl trivial ?_
  refine pm_callV2 mi_X10_digit (ix := 194) (b := 47) (ci := 10) (kc2 := 0) (ks2 := 0) (As := [.int ((nI a) + 1), .int 1]) (rest := []) (c_X10_digitx (s := s + 1) (a := a + 1) 1 ei (pm_set μ 47 12 (nI (s + 1))) (hT.set (by omega)) (by omega) hd) cal_X10_digit lk10_194 (by decide +kernel) rfl (by decide +kernel) rfl rfl rfl rfl (Nat.le_of_ble_eq_true rfl) (by decide) (by decide) (fun _ _ h9 => h9.elim) ?_
  rintro _ _ ⟨rfl, h9⟩; rw [h9]; clear h9
  show pm_V _ _ _ _ 78 _ [.int 1] _
  refine pm_if_ne (off := 14) 92 (by decide +kernel) (by decide) (fun _ => ?_) (fun h9 => absurd h9 (by decide))
  exact t_arr3 (s := s + 2) (pe := pe) (we := lr_hr t n (s + 1) - 48) q ha ha2 _ (((hT.set (s2 := s + 1) (by omega)).tl (Or.inl rfl)).set (by omega)) (by rw [pm_set_miss (Or.inr (by decide)), pm_set_off (by decide), pm_set_miss (Or.inr (by decide))]; exact h15) (by rw [pm_set_off (by decide), pm_set_miss (Or.inr (by omega)), pm_set_off (by decide)]; exact hpe) (by rw [pm_set_off (by decide), pm_set_hit, pm_set_off (by decide), h0, Int32.mul_zero, Int32.zero_add]) (((hF.st (Or.inr ⟨rfl, Or.inl rfl⟩)).st (Or.inl ⟨rfl, by omega⟩)).st (Or.inr ⟨rfl, Or.inl rfl⟩)) (by rw [hq]; unfold lr_let2; rw [if_pos h, if_pos hd])
set_option maxHeartbeats 4000000 in
set_option maxRecDepth 100000 in
theorem t_arr2 {t : Nat → Int32} {n a k : Nat} {μ0 : pm_Mm} (q : Option (Int32 × Int32 × Int32) × Nat) {s : Nat} {pe : Int32} (ha : a = 3 * k) (ha2 : a + 2 < 48) (μ : pm_Mm) (hT : lr_Tx t n s μ) (h15 : μ.1 47 15 = nI k) (hpe : μ.1 54 a = pe) (h0 : μ.1 54 (a + 1) = 0) (hF : lr_Fa μ0 k μ) (hq : q = lr_let2 t n pe s) : pm_V mi_X10_arrival (lr_Aq t n μ0 k q, pm_NX, fun _ _ _ => True) 0 0 61 [some (.ref 47), some (.int (nI a))] [] μ := by
  by_cases h : lr_hr t n s = 119
  · by_cases hd : lr_in (lr_hr t n (s + 1)) 49 57 = true
    · exact t_arr2_y q ha ha2 μ hT h15 hpe h0 hF h hd hq
    · exact t_arr2_f q ha ha2 μ hT h15 hpe h0 hF h (by rw [Bool.not_eq_true] at hd; exact hd) hq
  · exact t_arr2_n q ha ha2 μ hT h15 hpe h0 hF h hq
