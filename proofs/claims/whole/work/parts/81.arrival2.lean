/-! the model: one letter of a text, from its start -/
set_option maxHeartbeats 4000000 in
set_option maxRecDepth 100000 in
theorem t_arr1_z {t : Nat → Int32} {n a k : Nat} {μ0 : pm_Mm} (q : Option (Int32 × Int32 × Int32) × Nat) {s : Nat} {d : Int32} (ha : a = 3 * k) (ha2 : a + 2 < 48) (μ : pm_Mm) (hT : lr_Tx t n s μ) (h15 : μ.1 47 15 = nI k) (hd : μ.1 54 a = d) (h0 : μ.1 54 (a + 1) = 0) (hF : lr_Fa μ0 k μ) (h : ¬ 0 < d) (hq : q = lr_let2 t n d s) : pm_V mi_X10_arrival (lr_Aq t n μ0 k q, pm_NX, fun _ _ _ => True) 0 0 45 [some (.ref 47), some (.int (nI a))] [] μ := by
  have hs := hT.2.2.2.1; have hn := hT.2.2.1
  refine pm_bl [(.aload_n 0, 1, 0, 0, 0), (.getfield 32, 3, 10, 14, 0), (.iload_n 1, 1, 1, 0, 0), (.iaload, 1, 0, 0, 0)] (pc1 := 51) (lo1 := [some (.ref 47), some (.int (nI a))]) (st1 := [.int (μ.1 54 (nI a).toNatClampNeg)]) (μ1 := μ) (vc := vp_in (nI a) 48 ∧ True) rfl (by decide +kernel) rfl ⟨(vp_in_nI (by omega) (by omega)), trivial⟩ ?_
  rw [nI_clamp (n := a) (by omega), hd]
  refine pm_if_le (off := 10) 61 (by decide +kernel) (by decide) (fun (h51 : d ≤ 0) => ?_) (fun (h9 : ¬ (d ≤ 0)) => absurd h9 (by intro c; exact h (Int32.not_le.mp c)))
  exact t_arr2 (s := s) (pe := d) q ha ha2 μ hT h15 hd h0 hF hq
set_option maxHeartbeats 4000000 in
set_option maxRecDepth 100000 in
theorem t_arr1_n {t : Nat → Int32} {n a k : Nat} {μ0 : pm_Mm} (q : Option (Int32 × Int32 × Int32) × Nat) {s : Nat} {d : Int32} (ha : a = 3 * k) (ha2 : a + 2 < 48) (μ : pm_Mm) (hT : lr_Tx t n s μ) (h15 : μ.1 47 15 = nI k) (hd : μ.1 54 a = d) (h0 : μ.1 54 (a + 1) = 0) (hF : lr_Fa μ0 k μ) (h : 0 < d) (h2 : lr_in (lr_hr t n s) 48 57 = false) (hq : q = lr_let2 t n d s) : pm_V mi_X10_arrival (lr_Aq t n μ0 k q, pm_NX, fun _ _ _ => True) 0 0 45 [some (.ref 47), some (.int (nI a))] [] μ := by
  have hs := hT.2.2.2.1; have hn := hT.2.2.1
  refine pm_bl [(.aload_n 0, 1, 0, 0, 0), (.getfield 32, 3, 10, 14, 0), (.iload_n 1, 1, 1, 0, 0), (.iaload, 1, 0, 0, 0)] (pc1 := 51) (lo1 := [some (.ref 47), some (.int (nI a))]) (st1 := [.int (μ.1 54 (nI a).toNatClampNeg)]) (μ1 := μ) (vc := vp_in (nI a) 48 ∧ True) rfl (by decide +kernel) rfl ⟨(vp_in_nI (by omega) (by omega)), trivial⟩ ?_
  rw [nI_clamp (n := a) (by omega), hd]
  refine pm_if_le (off := 10) 61 (by decide +kernel) (by decide) (fun (h9 : d ≤ 0) => absurd h (Int32.not_lt.mpr h9)) (fun (h51 : ¬ (d ≤ 0)) => ?_)
  refine pm_bl [(.aload_n 0, 1, 0, 0, 0), (.iload_n 1, 1, 1, 0, 0), (.iconst 0, 1, 0, 0, 0)] (pc1 := 57) (lo1 := [some (.ref 47), some (.int (nI a))]) (st1 := [.int 0, .int (nI a), .ref 47]) (μ1 := μ) (vc := True) rfl (by decide +kernel) rfl trivial ?_
  refine pm_callV2 mi_X10_digit (ix := 194) (b := 47) (ci := 10) (kc2 := 0) (ks2 := 0) (As := [.int (nI a), .int 0]) (rest := []) (c_X10_digit_no (s := s) (nI a) 0 μ hT (by rw [Int32.add_zero]; exact h2)) cal_X10_digit lk10_194 (by decide +kernel) rfl (by decide +kernel) rfl rfl rfl rfl (Nat.le_of_ble_eq_true rfl) (by decide) (by decide) (fun _ _ h9 => h9.elim) ?_
  rintro _ _ ⟨rfl, h9⟩; rw [h9]; clear h9
  show pm_V _ _ _ _ 60 _ [.int 0] _
  refine pm_bl [(.pop, 1, 0, 0, 0)] (pc1 := 61) (lo1 := [some (.ref 47), some (.int (nI a))]) (st1 := []) (μ1 := μ) (vc := True) rfl (by decide +kernel) rfl trivial ?_
  exact t_arr2 (s := s) (pe := d) q ha ha2 μ hT h15 hd h0 hF hq
set_option maxHeartbeats 4000000 in
set_option maxRecDepth 100000 in
theorem t_arr1_y {t : Nat → Int32} {n a k : Nat} {μ0 : pm_Mm} (q : Option (Int32 × Int32 × Int32) × Nat) {s : Nat} {d : Int32} (ha : a = 3 * k) (ha2 : a + 2 < 48) (μ : pm_Mm) (hT : lr_Tx t n s μ) (h15 : μ.1 47 15 = nI k) (hd : μ.1 54 a = d) (h0 : μ.1 54 (a + 1) = 0) (hF : lr_Fa μ0 k μ) (h : 0 < d) (h2 : lr_in (lr_hr t n s) 48 57 = true) (hq : q = lr_let2 t n (10 * d + lr_hr t n s - 48) (s + 1)) : pm_V mi_X10_arrival (lr_Aq t n μ0 k q, pm_NX, fun _ _ _ => True) 0 0 45 [some (.ref 47), some (.int (nI a))] [] μ := by
  have hs := hT.2.2.2.1; have hn := hT.2.2.1
  have hsd := lr_hr_dg (Or.inl rfl) h2
  refine pm_bl [(.aload_n 0, 1, 0, 0, 0), (.getfield 32, 3, 10, 14, 0), (.iload_n 1, 1, 1, 0, 0), (.iaload, 1, 0, 0, 0)] (pc1 := 51) (lo1 := [some (.ref 47), some (.int (nI a))]) (st1 := [.int (μ.1 54 (nI a).toNatClampNeg)]) (μ1 := μ) (vc := vp_in (nI a) 48 ∧ True) rfl (by decide +kernel) rfl ⟨(vp_in_nI (by omega) (by omega)), trivial⟩ ?_
  rw [nI_clamp (n := a) (by omega), hd]
  refine pm_if_le (off := 10) 61 (by decide +kernel) (by decide) (fun (h9 : d ≤ 0) => absurd h (Int32.not_lt.mpr h9)) (fun (h51 : ¬ (d ≤ 0)) => ?_)
  refine pm_bl [(.aload_n 0, 1, 0, 0, 0), (.iload_n 1, 1, 1, 0, 0), (.iconst 0, 1, 0, 0, 0)] (pc1 := 57) (lo1 := [some (.ref 47), some (.int (nI a))]) (st1 := [.int 0, .int (nI a), .ref 47]) (μ1 := μ) (vc := True) rfl (by decide +kernel) rfl trivial ?_
  refine pm_callV2 mi_X10_digit (ix := 194) (b := 47) (ci := 10) (kc2 := 0) (ks2 := 0) (As := [.int (nI a), .int 0]) (rest := []) (c_X10_digit (s := s) (a := a) 0 μ hT (by omega) (by rw [Int32.add_zero]; exact h2)) cal_X10_digit lk10_194 (by decide +kernel) rfl (by decide +kernel) rfl rfl rfl rfl (Nat.le_of_ble_eq_true rfl) (by decide) (by decide) (fun _ _ h9 => h9.elim) ?_
  rintro _ _ ⟨rfl, h9⟩; rw [h9]; clear h9
  show pm_V _ _ _ _ 60 _ [.int 1] _
  refine pm_bl [(.pop, 1, 0, 0, 0)] (pc1 := 61) (lo1 := [some (.ref 47), some (.int (nI a))]) (st1 := []) (μ1 := pm_set (pm_set μ 54 a (10 * μ.1 54 a + lr_hr t n s - 48)) 47 12 (nI (s + 1))) (vc := True) rfl (by decide +kernel) rfl trivial ?_
  exact t_arr2 (s := s + 1) (pe := 10 * d + lr_hr t n s - 48) q ha ha2 _ ((hT.tl (Or.inl rfl)).set (by omega)) (by rw [pm_set_miss (Or.inr (by decide)), pm_set_off (by decide)]; exact h15) (by rw [pm_set_off (by decide), pm_set_hit, hd]) (by rw [pm_set_off (by decide), pm_set_miss (Or.inr (by omega))]; exact h0) ((hF.st (Or.inl ⟨rfl, by omega⟩)).st (Or.inr ⟨rfl, Or.inl rfl⟩)) hq
set_option maxHeartbeats 4000000 in
set_option maxRecDepth 100000 in
theorem t_arr0_p {t : Nat → Int32} {n a k : Nat} {μ0 : pm_Mm} (q : Option (Int32 × Int32 × Int32) × Nat) {s : Nat} (ha : a = 3 * k) (ha2 : a + 2 < 48) (μ : pm_Mm) (hT : lr_Tx t n s μ) (h15 : μ.1 47 15 = nI k) (hF : lr_Fa μ0 k μ) (h : ¬ lr_hr t n s = 112) (hq : q = lr_let t n s) : pm_V mi_X10_arrival (lr_Aq t n μ0 k q, pm_NX, fun _ _ _ => True) 0 0 7 [some (.ref 47), some (.int (nI a))] [] μ := by
  have hs := hT.2.2.2.1
  refine pm_bl [(.aload_n 0, 1, 0, 0, 0), (.bipush 112, 2, 0, 0, 112)] (pc1 := 10) (lo1 := [some (.ref 47), some (.int (nI a))]) (st1 := [.int 112, .ref 47]) (μ1 := μ) (vc := True) rfl (by decide +kernel) rfl trivial ?_
  refine pm_callV2 mi_X10_skips (ix := 191) (b := 47) (ci := 10) (kc2 := 0) (ks2 := 0) (As := [.int 112]) (rest := []) (c_X10_skips_n (s := s) (by decide) μ hT h) cal_X10_skips lk10_191 (by decide +kernel) rfl (by decide +kernel) rfl rfl rfl rfl (Nat.le_of_ble_eq_true rfl) (by decide) (by decide) (fun _ _ h9 => h9.elim) ?_
  rintro _ _ ⟨rfl, h9⟩; rw [h9]; clear h9
  show pm_V _ _ _ _ 13 _ [.int 0] _
  refine pm_if_ne (off := 5) 18 (by decide +kernel) (by decide) (fun h9 => absurd h9 (by decide)) (fun _ => ?_)
  refine pm_bl [(.iconst 0, 1, 0, 0, 0)] (pc1 := 17) (lo1 := [some (.ref 47), some (.int (nI a))]) (st1 := [.int 0]) (μ1 := pm_set μ 47 12 (nI (s))) (vc := True) rfl (by decide +kernel) rfl trivial ?_
  exact pm_iret (ty := .boolean) rfl (rfl) (by decide) (by decide) (by decide +kernel) (by rw [hq]; unfold lr_let lr_Aq; rw [if_neg h]; exact ⟨hT.set hs, hF.st (Or.inr ⟨rfl, Or.inl rfl⟩), fun _ => ⟨rfl, by rw [pm_set_miss (Or.inr (by decide))]; exact h15⟩, fun _ _ _ e => absurd e (by simp)⟩)
set_option maxHeartbeats 4000000 in
set_option maxRecDepth 100000 in
theorem t_arr0_f {t : Nat → Int32} {n a k : Nat} {μ0 : pm_Mm} (q : Option (Int32 × Int32 × Int32) × Nat) {s : Nat} (ha : a = 3 * k) (ha2 : a + 2 < 48) (μ : pm_Mm) (hT : lr_Tx t n s μ) (h15 : μ.1 47 15 = nI k) (hF : lr_Fa μ0 k μ) (h : lr_hr t n s = 112) (hd : lr_in (lr_hr t n (s + 1)) 48 57 = false) (hq : q = lr_let t n s) : pm_V mi_X10_arrival (lr_Aq t n μ0 k q, pm_NX, fun _ _ _ => True) 0 0 7 [some (.ref 47), some (.int (nI a))] [] μ := by
  have hs := hT.2.2.2.1; have hn := hT.2.2.1
  have hsn := lr_hr_lt (t := t) (n := n) (s := s) (by rw [h]; decide)
  obtain ⟨M, hM⟩ : ∃ M, M = pm_set (pm_set (pm_set μ 47 12 (nI (s + 1))) 54 a 0) 54 (1 + a) 0 := ⟨_, rfl⟩
  have hTM : lr_Tx t n (s + 1) M := by rw [hM]; exact ((hT.set (by omega)).tl (Or.inl rfl)).tl (Or.inl rfl)
  have h15M : M.1 47 15 = nI k := by rw [hM, pm_set_off (by decide), pm_set_off (by decide), pm_set_miss (Or.inr (by decide))]; exact h15
  have hFM : lr_Fa μ0 k M := by rw [hM]; exact ((hF.st (Or.inr ⟨rfl, Or.inl rfl⟩)).st (Or.inl ⟨rfl, by omega⟩)).st (Or.inl ⟨rfl, by omega⟩)
  have hMa : M.1 54 a = 0 := by rw [hM, pm_set_miss (Or.inr (by omega)), pm_set_hit]
  have hMb : M.1 54 (a + 1) = 0 := by rw [hM, Nat.add_comm a 1, pm_set_hit]
  refine pm_bl [(.aload_n 0, 1, 0, 0, 0), (.bipush 112, 2, 0, 0, 112)] (pc1 := 10) (lo1 := [some (.ref 47), some (.int (nI a))]) (st1 := [.int 112, .ref 47]) (μ1 := μ) (vc := True) rfl (by decide +kernel) rfl trivial ?_
  refine pm_callV2 mi_X10_skips (ix := 191) (b := 47) (ci := 10) (kc2 := 0) (ks2 := 0) (As := [.int 112]) (rest := []) (c_X10_skips_y (s := s) (by decide) μ hT h) cal_X10_skips lk10_191 (by decide +kernel) rfl (by decide +kernel) rfl rfl rfl rfl (Nat.le_of_ble_eq_true rfl) (by decide) (by decide) (fun _ _ h9 => h9.elim) ?_
  rintro _ _ ⟨rfl, h9⟩; rw [h9]; clear h9
  show pm_V _ _ _ _ 13 _ [.int 1] _
  refine pm_if_ne (off := 5) 18 (by decide +kernel) (by decide) (fun _ => ?_) (fun h9 => absurd h9 (by decide))
  refine pm_bl [(.aload_n 0, 1, 0, 0, 0), (.getfield 32, 3, 10, 14, 0), (.iload_n 1, 1, 1, 0, 0), (.iconst 0, 1, 0, 0, 0), (.iastore, 1, 0, 0, 0), (.aload_n 0, 1, 0, 0, 0), (.getfield 32, 3, 10, 14, 0), (.iload_n 1, 1, 1, 0, 0), (.iconst 1, 1, 0, 0, 1), (.iadd, 1, 0, 0, 0), (.iconst 0, 1, 0, 0, 0)] (pc1 := 33) (lo1 := [some (.ref 47), some (.int (nI a))]) (st1 := [.int 0, .int ((nI a) + 1), .ref 54]) (μ1 := pm_set (pm_set μ 47 12 (nI (s + 1))) 54 ((nI a).toNatClampNeg) 0) (vc := vp_in (nI a) 48 ∧ True) rfl (by decide +kernel) rfl ⟨(vp_in_nI (by omega) (by omega)), trivial⟩ ?_
  try rw [nI_clamp (n := a) (by omega)]
  rw [(show ((nI a) + 1 : Int32) = nI ((a) + 1) from by simp only [nI, Int32.ofNat_add, Int32.ofNat_mul]; rfl).trans (congrArg nI (show (a) + 1 = 1 + a from by omega))]
  refine pm_bl [(.iastore, 1, 0, 0, 0)] (pc1 := 34) (lo1 := [some (.ref 47), some (.int (nI a))]) (st1 := []) (μ1 := pm_set (pm_set (pm_set μ 47 12 (nI (s + 1))) 54 a 0) 54 ((nI (1 + a)).toNatClampNeg) 0) (vc := vp_in (nI (1 + a)) 48 ∧ True) rfl (by decide +kernel) rfl ⟨(vp_in_nI (by omega) (by omega)), trivial⟩ ?_
  try rw [nI_clamp (n := (1 + a)) (by omega)]
  try rw [nI_clamp (n := a) (by omega)]
  try rw [nI_clamp (n := 1 + a) (by omega)]
  rw [← hM]
  refine pm_bl [(.aload_n 0, 1, 0, 0, 0), (.iload_n 1, 1, 1, 0, 0), (.iconst 0, 1, 0, 0, 0)] (pc1 := 37) (lo1 := [some (.ref 47), some (.int (nI a))]) (st1 := [.int 0, .int (nI a), .ref 47]) (μ1 := M) (vc := True) rfl (by decide +kernel) rfl trivial ?_
  refine pm_callV2 mi_X10_digit (ix := 194) (b := 47) (ci := 10) (kc2 := 0) (ks2 := 0) (As := [.int (nI a), .int 0]) (rest := []) (c_X10_digit_no (s := s + 1) (nI a) 0 M hTM (by rw [Int32.add_zero]; exact hd)) cal_X10_digit lk10_194 (by decide +kernel) rfl (by decide +kernel) rfl rfl rfl rfl (Nat.le_of_ble_eq_true rfl) (by decide) (by decide) (fun _ _ h9 => h9.elim) ?_
  rintro _ _ ⟨rfl, h9⟩; rw [h9]; clear h9
  show pm_V _ _ _ _ 40 _ [.int 0] _
  refine pm_if_ne (off := 5) 45 (by decide +kernel) (by decide) (fun h9 => absurd h9 (by decide)) (fun _ => ?_)
  refine pm_bl [(.iconst 0, 1, 0, 0, 0)] (pc1 := 44) (lo1 := [some (.ref 47), some (.int (nI a))]) (st1 := [.int 0]) (μ1 := M) (vc := True) rfl (by decide +kernel) rfl trivial ?_
  exact pm_iret (ty := .boolean) rfl (rfl) (by decide) (by decide) (by decide +kernel) (by rw [hq]; unfold lr_let lr_Aq; rw [if_pos h, if_neg (by rw [hd]; decide)]; exact ⟨hTM, hFM, fun _ => ⟨rfl, h15M⟩, fun _ _ _ e => absurd e (by simp)⟩)
set_option maxHeartbeats 4000000 in
set_option maxRecDepth 100000 in
theorem t_arr0_y {t : Nat → Int32} {n a k : Nat} {μ0 : pm_Mm} (q : Option (Int32 × Int32 × Int32) × Nat) {s : Nat} (ha : a = 3 * k) (ha2 : a + 2 < 48) (μ : pm_Mm) (hT : lr_Tx t n s μ) (h15 : μ.1 47 15 = nI k) (hF : lr_Fa μ0 k μ) (h : lr_hr t n s = 112) (hd : lr_in (lr_hr t n (s + 1)) 48 57 = true) (hq : q = lr_let t n s) : pm_V mi_X10_arrival (lr_Aq t n μ0 k q, pm_NX, fun _ _ _ => True) 0 0 7 [some (.ref 47), some (.int (nI a))] [] μ := by
  have hs := hT.2.2.2.1; have hn := hT.2.2.1
  have hsn := lr_hr_lt (t := t) (n := n) (s := s) (by rw [h]; decide)
  obtain ⟨M, hM⟩ : ∃ M, M = pm_set (pm_set (pm_set μ 47 12 (nI (s + 1))) 54 a 0) 54 (1 + a) 0 := ⟨_, rfl⟩
  have hTM : lr_Tx t n (s + 1) M := by rw [hM]; exact ((hT.set (by omega)).tl (Or.inl rfl)).tl (Or.inl rfl)
  have h15M : M.1 47 15 = nI k := by rw [hM, pm_set_off (by decide), pm_set_off (by decide), pm_set_miss (Or.inr (by decide))]; exact h15
  have hFM : lr_Fa μ0 k M := by rw [hM]; exact ((hF.st (Or.inr ⟨rfl, Or.inl rfl⟩)).st (Or.inl ⟨rfl, by omega⟩)).st (Or.inl ⟨rfl, by omega⟩)
  have hMa : M.1 54 a = 0 := by rw [hM, pm_set_miss (Or.inr (by omega)), pm_set_hit]
  have hMb : M.1 54 (a + 1) = 0 := by rw [hM, Nat.add_comm a 1, pm_set_hit]
  refine pm_bl [(.aload_n 0, 1, 0, 0, 0), (.bipush 112, 2, 0, 0, 112)] (pc1 := 10) (lo1 := [some (.ref 47), some (.int (nI a))]) (st1 := [.int 112, .ref 47]) (μ1 := μ) (vc := True) rfl (by decide +kernel) rfl trivial ?_
  refine pm_callV2 mi_X10_skips (ix := 191) (b := 47) (ci := 10) (kc2 := 0) (ks2 := 0) (As := [.int 112]) (rest := []) (c_X10_skips_y (s := s) (by decide) μ hT h) cal_X10_skips lk10_191 (by decide +kernel) rfl (by decide +kernel) rfl rfl rfl rfl (Nat.le_of_ble_eq_true rfl) (by decide) (by decide) (fun _ _ h9 => h9.elim) ?_
  rintro _ _ ⟨rfl, h9⟩; rw [h9]; clear h9
  show pm_V _ _ _ _ 13 _ [.int 1] _
  refine pm_if_ne (off := 5) 18 (by decide +kernel) (by decide) (fun _ => ?_) (fun h9 => absurd h9 (by decide))
  refine pm_bl [(.aload_n 0, 1, 0, 0, 0), (.getfield 32, 3, 10, 14, 0), (.iload_n 1, 1, 1, 0, 0), (.iconst 0, 1, 0, 0, 0), (.iastore, 1, 0, 0, 0), (.aload_n 0, 1, 0, 0, 0), (.getfield 32, 3, 10, 14, 0), (.iload_n 1, 1, 1, 0, 0), (.iconst 1, 1, 0, 0, 1), (.iadd, 1, 0, 0, 0), (.iconst 0, 1, 0, 0, 0)] (pc1 := 33) (lo1 := [some (.ref 47), some (.int (nI a))]) (st1 := [.int 0, .int ((nI a) + 1), .ref 54]) (μ1 := pm_set (pm_set μ 47 12 (nI (s + 1))) 54 ((nI a).toNatClampNeg) 0) (vc := vp_in (nI a) 48 ∧ True) rfl (by decide +kernel) rfl ⟨(vp_in_nI (by omega) (by omega)), trivial⟩ ?_
  try rw [nI_clamp (n := a) (by omega)]
  rw [(show ((nI a) + 1 : Int32) = nI ((a) + 1) from by simp only [nI, Int32.ofNat_add, Int32.ofNat_mul]; rfl).trans (congrArg nI (show (a) + 1 = 1 + a from by omega))]
  refine pm_bl [(.iastore, 1, 0, 0, 0)] (pc1 := 34) (lo1 := [some (.ref 47), some (.int (nI a))]) (st1 := []) (μ1 := pm_set (pm_set (pm_set μ 47 12 (nI (s + 1))) 54 a 0) 54 ((nI (1 + a)).toNatClampNeg) 0) (vc := vp_in (nI (1 + a)) 48 ∧ True) rfl (by decide +kernel) rfl ⟨(vp_in_nI (by omega) (by omega)), trivial⟩ ?_
  try rw [nI_clamp (n := (1 + a)) (by omega)]
  try rw [nI_clamp (n := a) (by omega)]
  try rw [nI_clamp (n := 1 + a) (by omega)]
  rw [← hM]
  refine pm_bl [(.aload_n 0, 1, 0, 0, 0), (.iload_n 1, 1, 1, 0, 0), (.iconst 0, 1, 0, 0, 0)] (pc1 := 37) (lo1 := [some (.ref 47), some (.int (nI a))]) (st1 := [.int 0, .int (nI a), .ref 47]) (μ1 := M) (vc := True) rfl (by decide +kernel) rfl trivial ?_
  refine pm_callV2 mi_X10_digit (ix := 194) (b := 47) (ci := 10) (kc2 := 0) (ks2 := 0) (As := [.int (nI a), .int 0]) (rest := []) (c_X10_digit (s := s + 1) (a := a) 0 M hTM (by omega) (by rw [Int32.add_zero]; exact hd)) cal_X10_digit lk10_194 (by decide +kernel) rfl (by decide +kernel) rfl rfl rfl rfl (Nat.le_of_ble_eq_true rfl) (by decide) (by decide) (fun _ _ h9 => h9.elim) ?_
  rintro _ _ ⟨rfl, h9⟩; rw [h9]; clear h9
  show pm_V _ _ _ _ 40 _ [.int 1] _
  refine pm_if_ne (off := 5) 45 (by decide +kernel) (by decide) (fun _ => ?_) (fun h9 => absurd h9 (by decide))
  have e0 : 10 * M.1 54 a + lr_hr t n (s + 1) - 48 = lr_hr t n (s + 1) - 48 := by rw [hMa, Int32.mul_zero, Int32.zero_add]
  rw [e0]
  have hsd := lr_hr_dg (Or.inl rfl) hd
  have gT : lr_Tx t n (s + 2) (pm_set (pm_set M 54 a (lr_hr t n (s + 1) - 48)) 47 12 (nI (s + 1 + 1))) := (hTM.tl (Or.inl rfl)).set (s2 := s + 2) (by omega)
  have g15 : (pm_set (pm_set M 54 a (lr_hr t n (s + 1) - 48)) 47 12 (nI (s + 1 + 1))).1 47 15 = nI k := by rw [pm_set_miss (Or.inr (by decide)), pm_set_off (by decide)]; exact h15M
  have ga : (pm_set (pm_set M 54 a (lr_hr t n (s + 1) - 48)) 47 12 (nI (s + 1 + 1))).1 54 a = lr_hr t n (s + 1) - 48 := by rw [pm_set_off (by decide), pm_set_hit]
  have gb : (pm_set (pm_set M 54 a (lr_hr t n (s + 1) - 48)) 47 12 (nI (s + 1 + 1))).1 54 (a + 1) = 0 := by rw [pm_set_off (by decide), pm_set_miss (Or.inr (by omega))]; exact hMb
  have gF : lr_Fa μ0 k (pm_set (pm_set M 54 a (lr_hr t n (s + 1) - 48)) 47 12 (nI (s + 1 + 1))) := (hFM.st (Or.inl ⟨rfl, by omega⟩)).st (Or.inr ⟨rfl, Or.inl rfl⟩)
  unfold lr_let at hq
  rw [if_pos h, if_pos hd] at hq
  by_cases h1 : 0 < lr_hr t n (s + 1) - 48
  · by_cases h2 : lr_in (lr_hr t n (s + 2)) 48 57 = true
    · rw [if_pos ⟨h1, h2⟩] at hq
      exact t_arr1_y (s := s + 2) q ha ha2 _ gT g15 ga gb gF h1 h2 hq
    · rw [if_neg (fun c => h2 c.2)] at hq
      exact t_arr1_n (s := s + 2) q ha ha2 _ gT g15 ga gb gF h1 (by rw [Bool.not_eq_true] at h2; exact h2) hq
  · rw [if_neg (fun c => h1 c.1)] at hq
    exact t_arr1_z (s := s + 2) q ha ha2 _ gT g15 ga gb gF h1 hq
set_option maxHeartbeats 4000000 in
set_option maxRecDepth 100000 in
theorem c_X10_arrival {t : Nat → Int32} {n s k : Nat} (hk : 3 * k + 2 < 48) (μ : pm_Mm) (hT : lr_Tx t n s μ) (h15 : μ.1 47 15 = nI k) : pm_CT mi_X10_arrival [.ref 47] μ (lr_Aq t n μ k (lr_let t n s)) pm_NX := by
  refine pm_CT_of (lo := [some (.ref 47), none]) (by decide +kernel) rfl rfl (by intro v hv; simp at hv; rcases hv with rfl <;> rfl) (Nat.le_of_ble_eq_true rfl) rfl ?_
  have h7 : pm_V mi_X10_arrival (lr_Aq t n μ k (lr_let t n s), pm_NX, fun _ _ _ => True) 0 0 7 [some (.ref 47), some (.int (nI (3 * k)))] [] μ := by
    by_cases h : lr_hr t n s = 112
    · by_cases hd : lr_in (lr_hr t n (s + 1)) 48 57 = true
      · exact t_arr0_y _ rfl hk μ hT h15 lr_Fa.rf h hd rfl
      · exact t_arr0_f _ rfl hk μ hT h15 lr_Fa.rf h (by rw [Bool.not_eq_true] at hd; exact hd) rfl
    · exact t_arr0_p _ rfl hk μ hT h15 lr_Fa.rf h rfl
  refine pm_bl [(.iconst 3, 1, 0, 0, 3), (.aload_n 0, 1, 0, 0, 0), (.getfield 188, 3, 10, 15, 0)] (pc1 := 5) (lo1 := [some (.ref 47), none]) (st1 := [.int (μ.1 47 15), .int 3]) (μ1 := μ) (vc := True) rfl (by decide +kernel) rfl trivial ?_
  rw [h15]
  refine pm_bl [(.imul, 1, 0, 0, 0), (.istore_n 1, 1, 1, 0, 0)] (pc1 := 7) (lo1 := [some (.ref 47), some (.int (3 * (nI k)))]) (st1 := []) (μ1 := μ) (vc := True) rfl (by decide +kernel) rfl trivial ?_
  rw [show (3 : Int32) * nI k = nI (3 * k) from nI_mul 3 k]
  exact h7
