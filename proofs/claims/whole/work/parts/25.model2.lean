def bt (x : Int32) (i : Nat) : Bool := x.toBitVec.getLsbD i
theorem b_ext {x y : Int32} (h : ∀ i, i < 32 → bt x i = bt y i) : x = y := Int32.toBitVec_inj.mp (BitVec.eq_of_getLsbD_eq (fun i hi => h i hi))
theorem b_or (x y : Int32) (i : Nat) : bt (x ||| y) i = (bt x i || bt y i) := by unfold bt; rw [Int32.toBitVec_or, BitVec.getLsbD_or]
theorem b_and (x y : Int32) (i : Nat) : bt (x &&& y) i = (bt x i && bt y i) := by unfold bt; rw [Int32.toBitVec_and, BitVec.getLsbD_and]
theorem b_xor (x y : Int32) (i : Nat) : bt (x ^^^ y) i = (bt x i ^^ bt y i) := by unfold bt; rw [Int32.toBitVec_xor, BitVec.getLsbD_xor]
theorem b_big {x : Int32} {i : Nat} (h : 32 ≤ i) : bt x i = false := BitVec.getLsbD_of_ge _ _ h
theorem b_255 (i : Nat) : bt 255 i = decide (i < 8) := by
  rcases Nat.lt_or_ge i 32 with h | h
  · exact (by decide +kernel : ∀ i, i < 32 → bt 255 i = decide (i < 8)) i h
  · rw [b_big h, decide_eq_false (by omega)]
theorem b_65535 (i : Nat) : bt 65535 i = decide (i < 16) := by
  rcases Nat.lt_or_ge i 32 with h | h
  · exact (by decide +kernel : ∀ i, i < 32 → bt 65535 i = decide (i < 16)) i h
  · rw [b_big h, decide_eq_false (by omega)]
theorem b_m1 : ∀ i, i < 32 → bt (-1) i = true := by decide +kernel
theorem b_0 (i : Nat) : bt 0 i = false := BitVec.getLsbD_zero
theorem s_l : ∀ n, n < 32 → ((nI n &&& 31).toBitVec.smod 32).toNat = n := by decide +kernel
theorem s_u : ∀ n, n < 32 → (((nI n).toUInt32 &&& Int32.toUInt32 31).toBitVec % 32).toNat = n := by decide +kernel
theorem b_shl (n : Nat) (hn : n < 32) (x : Int32) {i : Nat} (hi : i < 32) : bt (x <<< (nI n &&& 31)) i = (decide (n ≤ i) && bt x (i - n)) := by
  unfold bt
  rw [Int32.toBitVec_shiftLeft]
  show (x.toBitVec <<< ((nI n &&& 31).toBitVec.smod 32).toNat).getLsbD i = _
  rw [s_l n hn, BitVec.getLsbD_shiftLeft]
  rcases Nat.lt_or_ge i n with h | h
  · simp [h, Nat.not_le.mpr h]
  · simp [hi, h, Nat.not_lt.mpr h]
theorem b_ushr (n : Nat) (hn : n < 32) (x : Int32) (i : Nat) : bt ((x.toUInt32 >>> ((nI n).toUInt32 &&& Int32.toUInt32 31)).toInt32) i = bt x (n + i) := by
  show (x.toUInt32 >>> ((nI n).toUInt32 &&& Int32.toUInt32 31)).toBitVec.getLsbD i = x.toUInt32.toBitVec.getLsbD (n + i)
  rw [UInt32.toBitVec_shiftRight]
  show (x.toUInt32.toBitVec >>> (((nI n).toUInt32 &&& Int32.toUInt32 31).toBitVec % 32).toNat).getLsbD i = _
  rw [s_u n hn, BitVec.getLsbD_ushiftRight]
theorem b_sshr (n : Nat) (hn : n < 32) (x : Int32) {i : Nat} (hi : i < 32) : bt (x >>> (nI n &&& 31)) i = if n + i < 32 then bt x (n + i) else bt x 31 := by
  unfold bt
  rw [Int32.toBitVec_shiftRight]
  show (x.toBitVec.sshiftRight ((nI n &&& 31).toBitVec.smod 32).toNat).getLsbD i = _
  rw [s_l n hn, BitVec.getLsbD_sshiftRight, BitVec.msb_eq_getLsbD_last]
  simp [hi]
theorem b_shl8 (x : Int32) {i : Nat} (hi : i < 32) : bt (x <<< ((8 : Int32) &&& 31)) i = (decide (8 ≤ i) && bt x (i - 8)) := b_shl 8 (by omega) x hi
theorem b_shl16 (x : Int32) {i : Nat} (hi : i < 32) : bt (x <<< ((16 : Int32) &&& 31)) i = (decide (16 ≤ i) && bt x (i - 16)) := b_shl 16 (by omega) x hi
theorem b_shl24 (x : Int32) {i : Nat} (hi : i < 32) : bt (x <<< ((24 : Int32) &&& 31)) i = (decide (24 ≤ i) && bt x (i - 24)) := b_shl 24 (by omega) x hi
theorem b_sshr8 (x : Int32) {i : Nat} (hi : i < 32) : bt (x >>> ((8 : Int32) &&& 31)) i = if 8 + i < 32 then bt x (8 + i) else bt x 31 := b_sshr 8 (by omega) x hi
theorem lr_b1j : ∀ j, j < 32 → bt (1 : Int32) j = decide (j = 0) := by decide +kernel
theorem lr_shl1 {i j : Nat} (hi : i < 32) (hj : j < 32) : bt ((1 : Int32) <<< (nI i &&& 31)) j = decide (j = i) := by
  rw [b_shl i hi 1 hj, lr_b1j (j - i) (by omega)]
  by_cases h : j = i
  · subst h; simp
  · by_cases h2 : i ≤ j
    · simp [h, h2]; omega
    · simp [h, h2]
theorem lr_bit0 (x : Int32) {i : Nat} (hi : i < 32) : x &&& ((1 : Int32) <<< (nI i &&& 31)) = 0 ↔ bt x i = false := by
  constructor
  · intro h
    have h1 := congrArg (fun z => bt z i) h
    simp only [b_and, lr_shl1 hi hi, b_0, decide_true, Bool.and_true] at h1
    exact h1
  · intro h
    refine b_ext (fun j hj => ?_)
    rw [b_and, lr_shl1 hi hj, b_0]
    by_cases e : j = i
    · subst e; simp [h]
    · simp [e]
theorem lr_bit1 (x : Int32) {i : Nat} (hi : i < 32) : (x >>> (nI i &&& 31)) &&& 1 = 1 ↔ bt x i = true := by
  constructor
  · intro h
    have h1 := congrArg (fun z => bt z 0) h
    simp only [b_and, b_sshr i hi x (i := 0) (by omega), lr_b1j 0 (by omega), decide_true, Bool.and_true, Nat.add_zero, if_pos hi] at h1
    exact h1
  · intro h
    refine b_ext (fun j hj => ?_)
    rw [b_and, lr_b1j j hj]
    by_cases e : j = 0
    · subst e
      rw [b_sshr i hi x (by omega), if_pos (by omega), Nat.add_zero, h]
      rfl
    · simp [e]
theorem lr_al_bit (g : Nat → Int32) (p : Nat) {i : Nat} (hi : i < 32) : lr_al g p (nI i) = bt (g (39 + 4 * p)) i := by
  unfold lr_al
  cases h : bt (g (39 + 4 * p)) i with
  | false => rw [decide_eq_true ((lr_bit0 _ hi).mpr h)]; rfl
  | true =>
    rw [decide_eq_false (fun h2 => by rw [(lr_bit0 _ hi).mp h2] at h; cases h)]
    rfl
set_option maxHeartbeats 4000000 in
set_option maxRecDepth 100000 in
theorem l_X10_stopsAhead {g : Nat → Int32} (h u : Nat) (hh : h < lr_n g 2) (hu : u < lr_n g 116) (hsv : lr_sv g h = nI u) (d : Int32) (hd : d = lr_b (decide (g (119 + 5 * u) = 1))) (μ : pm_Mm) (hM : μ.1 48 = g) (hG : lr_G g) : ∀ n k : Nat, ∀ x : Int32, k + n = lr_n g 2 → x = lr_sum (fun i => lr_b (decide (lr_sv g i = lr_sv g h) && lr_cf g (lr_sv g h) (g (4 + 2 * i)) (g (4 + 2 * h)))) k → pm_V mi_X10_stopsAhead ((fun v μ2 => v = some (.int (lr_sp g h)) ∧ μ2 = μ), pm_NX, fun _ _ _ => True) 0 0 35 [some (.ref 47), some (.int (nI h)), some (.int (nI u)), some (.int d), some (.int x), some (.int (nI k))] [] μ := by
  have hm1 := lr_mh hG; have hm2 := lr_mw hG; have hm3 := lr_mp hG; have hm4 := lr_mr hG; have hm5 := lr_ma hG; have hm6 := lr_ml hG
  intro n
  induction n with
  | zero =>
    intro k x hk he
    refine pm_bl [(.iload 5, 2, 5, 0, 0), (.aload_n 0, 1, 0, 0, 0), (.getfield 7, 3, 10, 0, 0), (.iconst 2, 1, 0, 0, 2), (.iaload, 1, 0, 0, 0)] (pc1 := 43) (lo1 := [some (.ref 47), some (.int (nI h)), some (.int (nI u)), some (.int d), some (.int x), some (.int (nI k))]) (st1 := [.int (μ.1 48 (2 : Int32).toNatClampNeg), .int (nI k)]) (μ1 := μ) (vc := vp_in 2 620 ∧ True) rfl (by decide +kernel) rfl ⟨(by unfold vp_in; decide), trivial⟩ ?_
    rw [show (2 : Int32).toNatClampNeg = 2 from by decide, hM, lr_gh hG]
    refine pm_icmp_ge (off := 64) 107 (by decide +kernel) (by decide) (fun (h43 : (nI (lr_n g 2)) ≤ (nI k)) => ?_) (fun (h9 : ¬ ((nI (lr_n g 2)) ≤ (nI k))) => absurd (nI_le (by omega) (by omega)) h9)
    refine pm_bl [(.iload 4, 2, 4, 0, 0)] (pc1 := 109) (lo1 := [some (.ref 47), some (.int (nI h)), some (.int (nI u)), some (.int d), some (.int x), some (.int (nI k))]) (st1 := [.int x]) (μ1 := μ) (vc := True) rfl (by decide +kernel) rfl trivial ?_
    exact pm_iret (ty := .int) rfl rfl (by decide) (by decide) (by decide +kernel) (⟨by rw [he, lr_sp, ← hk]; rfl, rfl⟩)
  | succ n ih =>
    intro k x hk he
    refine pm_bl [(.iload 5, 2, 5, 0, 0), (.aload_n 0, 1, 0, 0, 0), (.getfield 7, 3, 10, 0, 0), (.iconst 2, 1, 0, 0, 2), (.iaload, 1, 0, 0, 0)] (pc1 := 43) (lo1 := [some (.ref 47), some (.int (nI h)), some (.int (nI u)), some (.int d), some (.int x), some (.int (nI k))]) (st1 := [.int (μ.1 48 (2 : Int32).toNatClampNeg), .int (nI k)]) (μ1 := μ) (vc := vp_in 2 620 ∧ True) rfl (by decide +kernel) rfl ⟨(by unfold vp_in; decide), trivial⟩ ?_
    rw [show (2 : Int32).toNatClampNeg = 2 from by decide, hM, lr_gh hG]
    refine pm_icmp_ge (off := 64) 107 (by decide +kernel) (by decide) (fun (h9 : (nI (lr_n g 2)) ≤ (nI k)) => absurd h9 (nI_ge (by omega) (by omega))) (fun (h43 : ¬ ((nI (lr_n g 2)) ≤ (nI k))) => ?_)
    refine pm_bl [(.aload_n 0, 1, 0, 0, 0), (.iload 5, 2, 5, 0, 0)] (pc1 := 49) (lo1 := [some (.ref 47), some (.int (nI h)), some (.int (nI u)), some (.int d), some (.int x), some (.int (nI k))]) (st1 := [.int (nI k), .ref 47]) (μ1 := μ) (vc := True) rfl (by decide +kernel) rfl trivial ?_
    refine pm_callV2 mi_X10_serving (ix := 78) (b := 47) (ci := 10) (kc2 := 0) (ks2 := 0) (As := [.int (nI k)]) (rest := []) (c_X10_serving (h := k) μ hM hG (by omega)) cal_X10_serving lk10_78 (by decide +kernel) rfl (by decide +kernel) rfl rfl rfl rfl (Nat.le_of_ble_eq_true rfl) (by decide) (by decide) (fun _ _ h9 => h9.elim) ?_
    rintro _ _ ⟨rfl, h9⟩; rw [h9]; clear h9
    show pm_V _ _ _ _ 52 _ [.int (lr_sv g k)] _
    refine pm_bl [(.iload_n 2, 1, 2, 0, 0)] (pc1 := 53) (lo1 := [some (.ref 47), some (.int (nI h)), some (.int (nI u)), some (.int d), some (.int x), some (.int (nI k))]) (st1 := [.int (nI u), .int (lr_sv g k)]) (μ1 := μ) (vc := True) rfl (by decide +kernel) rfl trivial ?_
    refine pm_icmp_ne (off := 48) 101 (by decide +kernel) (by decide) (fun (h53 : ¬ (lr_sv g k) = (nI u)) => ?_) (fun (h53 : (lr_sv g k) = (nI u)) => ?_)
    · refine pm_bl [(.iinc 5 1, 3, 5, 0, 1), (.goto (-69), 3, 35, 0, 0)] (pc1 := 35) (lo1 := [some (.ref 47), some (.int (nI h)), some (.int (nI u)), some (.int d), some (.int x), some (.int ((nI k) + 1))]) (st1 := []) (μ1 := μ) (vc := True) rfl (by decide +kernel) rfl trivial ?_
      rw [nI_1]; exact ih (k + 1) _ (by omega) (by rw [he]; simp only [lr_sum, hsv, lr_cf, nI_clamp (n := u) (by omega)]; obtain ⟨-, dd, hdd, hdd2⟩ := lr_G_w hG hu; rcases (show dd = 0 ∨ dd = 1 by omega) with rfl | rfl <;> rw [hdd] at hd ⊢ <;> simp_all [lr_b, Int32.not_le, show nI 0 = (0 : Int32) from rfl, show nI 1 = (1 : Int32) from rfl])
    · refine pm_bl [(.iload 4, 2, 4, 0, 0), (.iload_n 3, 1, 3, 0, 0)] (pc1 := 59) (lo1 := [some (.ref 47), some (.int (nI h)), some (.int (nI u)), some (.int d), some (.int x), some (.int (nI k))]) (st1 := [.int d, .int x]) (μ1 := μ) (vc := True) rfl (by decide +kernel) rfl trivial ?_
      refine pm_if_eq (off := 20) 79 (by decide +kernel) (by decide) (fun (h59 : d = 0) => ?_) (fun (h59 : ¬ (d = 0)) => ?_)
      · refine pm_bl [(.aload_n 0, 1, 0, 0, 0), (.iload 5, 2, 5, 0, 0)] (pc1 := 82) (lo1 := [some (.ref 47), some (.int (nI h)), some (.int (nI u)), some (.int d), some (.int x), some (.int (nI k))]) (st1 := [.int (nI k), .ref 47, .int x]) (μ1 := μ) (vc := True) rfl (by decide +kernel) rfl trivial ?_
        refine pm_callV2 mi_X10_numberOf (ix := 63) (b := 47) (ci := 10) (kc2 := 0) (ks2 := 0) (As := [.int (nI k)]) (rest := [.int x]) (c_X10_numberOf (h := k) μ hM (by omega)) cal_X10_numberOf lk10_63 (by decide +kernel) rfl (by decide +kernel) rfl rfl rfl rfl (Nat.le_of_ble_eq_true rfl) (by decide) (by decide) (fun _ _ h9 => h9.elim) ?_
        rintro _ _ ⟨rfl, h9⟩; rw [h9]; clear h9
        show pm_V _ _ _ _ 85 _ [.int (g (4 + 2 * k)), .int x] _
        refine pm_bl [(.aload_n 0, 1, 0, 0, 0), (.iload_n 1, 1, 1, 0, 0)] (pc1 := 87) (lo1 := [some (.ref 47), some (.int (nI h)), some (.int (nI u)), some (.int d), some (.int x), some (.int (nI k))]) (st1 := [.int (nI h), .ref 47, .int (g (4 + 2 * k)), .int x]) (μ1 := μ) (vc := True) rfl (by decide +kernel) rfl trivial ?_
        refine pm_callV2 mi_X10_numberOf (ix := 63) (b := 47) (ci := 10) (kc2 := 0) (ks2 := 0) (As := [.int (nI h)]) (rest := [.int (g (4 + 2 * k)), .int x]) (c_X10_numberOf (h := h) μ hM (by omega)) cal_X10_numberOf lk10_63 (by decide +kernel) rfl (by decide +kernel) rfl rfl rfl rfl (Nat.le_of_ble_eq_true rfl) (by decide) (by decide) (fun _ _ h9 => h9.elim) ?_
        rintro _ _ ⟨rfl, h9⟩; rw [h9]; clear h9
        show pm_V _ _ _ _ 90 _ [.int (g (4 + 2 * h)), .int (g (4 + 2 * k)), .int x] _
        refine pm_icmp_ge (off := 7) 97 (by decide +kernel) (by decide) (fun (h90 : (g (4 + 2 * h)) ≤ (g (4 + 2 * k))) => ?_) (fun (h90 : ¬ ((g (4 + 2 * h)) ≤ (g (4 + 2 * k)))) => ?_)
        · refine pm_bl [(.iconst 0, 1, 0, 0, 0), (.iadd, 1, 0, 0, 0), (.istore 4, 2, 4, 0, 0), (.iinc 5 1, 3, 5, 0, 1), (.goto (-69), 3, 35, 0, 0)] (pc1 := 35) (lo1 := [some (.ref 47), some (.int (nI h)), some (.int (nI u)), some (.int d), some (.int (x + 0)), some (.int ((nI k) + 1))]) (st1 := []) (μ1 := μ) (vc := True) rfl (by decide +kernel) rfl trivial ?_
          rw [nI_1]; exact ih (k + 1) _ (by omega) (by rw [he]; simp only [lr_sum, hsv, lr_cf, nI_clamp (n := u) (by omega)]; obtain ⟨-, dd, hdd, hdd2⟩ := lr_G_w hG hu; rcases (show dd = 0 ∨ dd = 1 by omega) with rfl | rfl <;> rw [hdd] at hd ⊢ <;> simp_all [lr_b, Int32.not_le, show nI 0 = (0 : Int32) from rfl, show nI 1 = (1 : Int32) from rfl])
        · refine pm_bl [(.iconst 1, 1, 0, 0, 1), (.goto 4, 3, 98, 0, 0), (.iadd, 1, 0, 0, 0), (.istore 4, 2, 4, 0, 0), (.iinc 5 1, 3, 5, 0, 1), (.goto (-69), 3, 35, 0, 0)] (pc1 := 35) (lo1 := [some (.ref 47), some (.int (nI h)), some (.int (nI u)), some (.int d), some (.int (x + 1)), some (.int ((nI k) + 1))]) (st1 := []) (μ1 := μ) (vc := True) rfl (by decide +kernel) rfl trivial ?_
          rw [nI_1]; exact ih (k + 1) _ (by omega) (by rw [he]; simp only [lr_sum, hsv, lr_cf, nI_clamp (n := u) (by omega)]; obtain ⟨-, dd, hdd, hdd2⟩ := lr_G_w hG hu; rcases (show dd = 0 ∨ dd = 1 by omega) with rfl | rfl <;> rw [hdd] at hd ⊢ <;> simp_all [lr_b, Int32.not_le, show nI 0 = (0 : Int32) from rfl, show nI 1 = (1 : Int32) from rfl])
      · refine pm_bl [(.aload_n 0, 1, 0, 0, 0), (.iload 5, 2, 5, 0, 0)] (pc1 := 65) (lo1 := [some (.ref 47), some (.int (nI h)), some (.int (nI u)), some (.int d), some (.int x), some (.int (nI k))]) (st1 := [.int (nI k), .ref 47, .int x]) (μ1 := μ) (vc := True) rfl (by decide +kernel) rfl trivial ?_
        refine pm_callV2 mi_X10_numberOf (ix := 63) (b := 47) (ci := 10) (kc2 := 0) (ks2 := 0) (As := [.int (nI k)]) (rest := [.int x]) (c_X10_numberOf (h := k) μ hM (by omega)) cal_X10_numberOf lk10_63 (by decide +kernel) rfl (by decide +kernel) rfl rfl rfl rfl (Nat.le_of_ble_eq_true rfl) (by decide) (by decide) (fun _ _ h9 => h9.elim) ?_
        rintro _ _ ⟨rfl, h9⟩; rw [h9]; clear h9
        show pm_V _ _ _ _ 68 _ [.int (g (4 + 2 * k)), .int x] _
        refine pm_bl [(.aload_n 0, 1, 0, 0, 0), (.iload_n 1, 1, 1, 0, 0)] (pc1 := 70) (lo1 := [some (.ref 47), some (.int (nI h)), some (.int (nI u)), some (.int d), some (.int x), some (.int (nI k))]) (st1 := [.int (nI h), .ref 47, .int (g (4 + 2 * k)), .int x]) (μ1 := μ) (vc := True) rfl (by decide +kernel) rfl trivial ?_
        refine pm_callV2 mi_X10_numberOf (ix := 63) (b := 47) (ci := 10) (kc2 := 0) (ks2 := 0) (As := [.int (nI h)]) (rest := [.int (g (4 + 2 * k)), .int x]) (c_X10_numberOf (h := h) μ hM (by omega)) cal_X10_numberOf lk10_63 (by decide +kernel) rfl (by decide +kernel) rfl rfl rfl rfl (Nat.le_of_ble_eq_true rfl) (by decide) (by decide) (fun _ _ h9 => h9.elim) ?_
        rintro _ _ ⟨rfl, h9⟩; rw [h9]; clear h9
        show pm_V _ _ _ _ 73 _ [.int (g (4 + 2 * h)), .int (g (4 + 2 * k)), .int x] _
        refine pm_icmp_le (off := 24) 97 (by decide +kernel) (by decide) (fun (h73 : (g (4 + 2 * k)) ≤ (g (4 + 2 * h))) => ?_) (fun (h73 : ¬ ((g (4 + 2 * k)) ≤ (g (4 + 2 * h)))) => ?_)
        · refine pm_bl [(.iconst 0, 1, 0, 0, 0), (.iadd, 1, 0, 0, 0), (.istore 4, 2, 4, 0, 0), (.iinc 5 1, 3, 5, 0, 1), (.goto (-69), 3, 35, 0, 0)] (pc1 := 35) (lo1 := [some (.ref 47), some (.int (nI h)), some (.int (nI u)), some (.int d), some (.int (x + 0)), some (.int ((nI k) + 1))]) (st1 := []) (μ1 := μ) (vc := True) rfl (by decide +kernel) rfl trivial ?_
          rw [nI_1]; exact ih (k + 1) _ (by omega) (by rw [he]; simp only [lr_sum, hsv, lr_cf, nI_clamp (n := u) (by omega)]; obtain ⟨-, dd, hdd, hdd2⟩ := lr_G_w hG hu; rcases (show dd = 0 ∨ dd = 1 by omega) with rfl | rfl <;> rw [hdd] at hd ⊢ <;> simp_all [lr_b, Int32.not_le, show nI 0 = (0 : Int32) from rfl, show nI 1 = (1 : Int32) from rfl])
        · refine pm_bl [(.goto 17, 3, 93, 0, 0), (.iconst 1, 1, 0, 0, 1), (.goto 4, 3, 98, 0, 0), (.iadd, 1, 0, 0, 0), (.istore 4, 2, 4, 0, 0), (.iinc 5 1, 3, 5, 0, 1), (.goto (-69), 3, 35, 0, 0)] (pc1 := 35) (lo1 := [some (.ref 47), some (.int (nI h)), some (.int (nI u)), some (.int d), some (.int (x + 1)), some (.int ((nI k) + 1))]) (st1 := []) (μ1 := μ) (vc := True) rfl (by decide +kernel) rfl trivial ?_
          rw [nI_1]; exact ih (k + 1) _ (by omega) (by rw [he]; simp only [lr_sum, hsv, lr_cf, nI_clamp (n := u) (by omega)]; obtain ⟨-, dd, hdd, hdd2⟩ := lr_G_w hG hu; rcases (show dd = 0 ∨ dd = 1 by omega) with rfl | rfl <;> rw [hdd] at hd ⊢ <;> simp_all [lr_b, Int32.not_le, show nI 0 = (0 : Int32) from rfl, show nI 1 = (1 : Int32) from rfl])
set_option maxHeartbeats 4000000 in
set_option maxRecDepth 100000 in
theorem c_X10_stopsAhead {g : Nat → Int32} {h u : Nat} (μ : pm_Mm) (hM : μ.1 48 = g) (hG : lr_G g) (hh : h < lr_n g 2) (hu : u < lr_n g 116) (hsv : lr_sv g h = nI u) : pm_CT mi_X10_stopsAhead [.ref 47, .int (nI h)] μ (fun v μ2 => v = some (.int (lr_sp g h)) ∧ μ2 = μ) pm_NX := by
  refine pm_CT_of (lo := [some (.ref 47), some (.int (nI h)), none, none, none, none]) (by decide +kernel) rfl rfl (by intro v hv; simp at hv; rcases hv with rfl | rfl <;> rfl) (Nat.le_of_ble_eq_true rfl) rfl ?_
  have hm1 := lr_mh hG; have hm2 := lr_mw hG; have hm3 := lr_mp hG; have hm4 := lr_mr hG; have hm5 := lr_ma hG; have hm6 := lr_ml hG
  refine pm_bl [(.aload_n 0, 1, 0, 0, 0), (.iload_n 1, 1, 1, 0, 0)] (pc1 := 2) (lo1 := [some (.ref 47), some (.int (nI h)), none, none, none, none]) (st1 := [.int (nI h), .ref 47]) (μ1 := μ) (vc := True) rfl (by decide +kernel) rfl trivial ?_
  refine pm_callV2 mi_X10_serving (ix := 78) (b := 47) (ci := 10) (kc2 := 0) (ks2 := 0) (As := [.int (nI h)]) (rest := []) (c_X10_serving (h := h) μ hM hG (by omega)) cal_X10_serving lk10_78 (by decide +kernel) rfl (by decide +kernel) rfl rfl rfl rfl (Nat.le_of_ble_eq_true rfl) (by decide) (by decide) (fun _ _ h9 => h9.elim) ?_
  rintro _ _ ⟨rfl, h9⟩; rw [h9]; clear h9
  rw [hsv]
  show pm_V _ _ _ _ 5 _ [.int (nI u)] _
  refine pm_bl [(.istore_n 2, 1, 2, 0, 0), (.aload_n 0, 1, 0, 0, 0), (.getfield 7, 3, 10, 0, 0), (.bipush 117, 2, 0, 0, 117), (.iconst 5, 1, 0, 0, 5), (.iload_n 2, 1, 2, 0, 0), (.imul, 1, 0, 0, 0), (.iadd, 1, 0, 0, 0), (.iconst 2, 1, 0, 0, 2), (.iadd, 1, 0, 0, 0)] (pc1 := 18) (lo1 := [some (.ref 47), some (.int (nI h)), some (.int (nI u)), none, none, none]) (st1 := [.int ((117 + (5 * (nI u))) + 2), .ref 48]) (μ1 := μ) (vc := True) rfl (by decide +kernel) rfl trivial ?_
  rw [(show ((117 + (5 * (nI u))) + 2 : Int32) = nI ((117 + (5 * (u))) + 2) from by simp only [nI, Int32.ofNat_add, Int32.ofNat_mul]; rfl).trans (congrArg nI (show (117 + (5 * (u))) + 2 = 119 + 5 * u from by omega))]
  refine pm_bl [(.iaload, 1, 0, 0, 0)] (pc1 := 19) (lo1 := [some (.ref 47), some (.int (nI h)), some (.int (nI u)), none, none, none]) (st1 := [.int (μ.1 48 (nI (119 + 5 * u)).toNatClampNeg)]) (μ1 := μ) (vc := vp_in (nI (119 + 5 * u)) 620 ∧ True) rfl (by decide +kernel) rfl ⟨(vp_in_nI (by omega) (by omega)), trivial⟩ ?_
  first | rw [nI_clamp (n := 119 + 5 * u) (by omega), hM] | rw [hM]
  refine pm_bl [(.iconst 1, 1, 0, 0, 1)] (pc1 := 20) (lo1 := [some (.ref 47), some (.int (nI h)), some (.int (nI u)), none, none, none]) (st1 := [.int 1, .int (g (119 + 5 * u))]) (μ1 := μ) (vc := True) rfl (by decide +kernel) rfl trivial ?_
  refine pm_icmp_ne (off := 7) 27 (by decide +kernel) (by decide) (fun (h20 : ¬ (g (119 + 5 * u)) = 1) => ?_) (fun (h20 : (g (119 + 5 * u)) = 1) => ?_)
  · refine pm_bl [(.iconst 0, 1, 0, 0, 0), (.istore_n 3, 1, 3, 0, 0), (.iconst 0, 1, 0, 0, 0), (.istore 4, 2, 4, 0, 0), (.iconst 0, 1, 0, 0, 0), (.istore 5, 2, 5, 0, 0)] (pc1 := 35) (lo1 := [some (.ref 47), some (.int (nI h)), some (.int (nI u)), some (.int 0), some (.int 0), some (.int 0)]) (st1 := []) (μ1 := μ) (vc := True) rfl (by decide +kernel) rfl trivial ?_
    exact l_X10_stopsAhead h u hh hu hsv _ (by simp_all [lr_b]) μ hM hG (lr_n g 2) 0 0 (Nat.zero_add _) rfl
  · refine pm_bl [(.iconst 1, 1, 0, 0, 1), (.goto 4, 3, 28, 0, 0), (.istore_n 3, 1, 3, 0, 0), (.iconst 0, 1, 0, 0, 0), (.istore 4, 2, 4, 0, 0), (.iconst 0, 1, 0, 0, 0), (.istore 5, 2, 5, 0, 0)] (pc1 := 35) (lo1 := [some (.ref 47), some (.int (nI h)), some (.int (nI u)), some (.int 1), some (.int 0), some (.int 0)]) (st1 := []) (μ1 := μ) (vc := True) rfl (by decide +kernel) rfl trivial ?_
    exact l_X10_stopsAhead h u hh hu hsv _ (by simp_all [lr_b]) μ hM hG (lr_n g 2) 0 0 (Nat.zero_add _) rfl
set_option maxHeartbeats 4000000 in
set_option maxRecDepth 100000 in
theorem l_X10_isAbsent {g : Nat → Int32} (pe dy : Int32) (μ : pm_Mm) (hM : μ.1 48 = g) (hG : lr_G g) : ∀ n k : Nat, k + n = lr_n g 228 → lr_abs g pe dy = lr_any (fun a => decide (g (229 + 3 * a) = pe) && lr_in dy (g (230 + 3 * a)) (g (231 + 3 * a))) n k → pm_V mi_X10_isAbsent ((fun v μ2 => v = some (.int (lr_b (lr_abs g pe dy))) ∧ μ2 = μ), pm_NX, fun _ _ _ => True) 0 0 2 [some (.ref 47), some (.int pe), some (.int dy), some (.int (nI k))] [] μ := by
  have hm1 := lr_mh hG; have hm2 := lr_mw hG; have hm3 := lr_mp hG; have hm4 := lr_mr hG; have hm5 := lr_ma hG; have hm6 := lr_ml hG
  intro n
  induction n with
  | zero =>
    intro k hk he
    refine pm_bl [(.iload_n 3, 1, 3, 0, 0), (.aload_n 0, 1, 0, 0, 0), (.getfield 7, 3, 10, 0, 0), (.sipush 228, 3, 0, 0, 228), (.iaload, 1, 0, 0, 0)] (pc1 := 11) (lo1 := [some (.ref 47), some (.int pe), some (.int dy), some (.int (nI k))]) (st1 := [.int (μ.1 48 (228 : Int32).toNatClampNeg), .int (nI k)]) (μ1 := μ) (vc := vp_in 228 620 ∧ True) rfl (by decide +kernel) rfl ⟨(by unfold vp_in; decide), trivial⟩ ?_
    rw [show (228 : Int32).toNatClampNeg = 228 from by decide, hM, lr_ga hG]
    refine pm_icmp_ge (off := 62) 73 (by decide +kernel) (by decide) (fun (h11 : (nI (lr_n g 228)) ≤ (nI k)) => ?_) (fun (h9 : ¬ ((nI (lr_n g 228)) ≤ (nI k))) => absurd (nI_le (by omega) (by omega)) h9)
    refine pm_bl [(.iconst 0, 1, 0, 0, 0)] (pc1 := 74) (lo1 := [some (.ref 47), some (.int pe), some (.int dy), some (.int (nI k))]) (st1 := [.int 0]) (μ1 := μ) (vc := True) rfl (by decide +kernel) rfl trivial ?_
    exact pm_iret (ty := .boolean) rfl (rfl) (by decide) (by decide) (by decide +kernel) (⟨by rw [he]; rfl, rfl⟩)
  | succ n ih =>
    intro k hk he
    refine pm_bl [(.iload_n 3, 1, 3, 0, 0), (.aload_n 0, 1, 0, 0, 0), (.getfield 7, 3, 10, 0, 0), (.sipush 228, 3, 0, 0, 228), (.iaload, 1, 0, 0, 0)] (pc1 := 11) (lo1 := [some (.ref 47), some (.int pe), some (.int dy), some (.int (nI k))]) (st1 := [.int (μ.1 48 (228 : Int32).toNatClampNeg), .int (nI k)]) (μ1 := μ) (vc := vp_in 228 620 ∧ True) rfl (by decide +kernel) rfl ⟨(by unfold vp_in; decide), trivial⟩ ?_
    rw [show (228 : Int32).toNatClampNeg = 228 from by decide, hM, lr_ga hG]
    refine pm_icmp_ge (off := 62) 73 (by decide +kernel) (by decide) (fun (h9 : (nI (lr_n g 228)) ≤ (nI k)) => absurd h9 (nI_ge (by omega) (by omega))) (fun (h11 : ¬ ((nI (lr_n g 228)) ≤ (nI k))) => ?_)
    refine pm_bl [(.aload_n 0, 1, 0, 0, 0), (.getfield 7, 3, 10, 0, 0), (.sipush 229, 3, 0, 0, 229), (.iconst 3, 1, 0, 0, 3), (.iload_n 3, 1, 3, 0, 0), (.imul, 1, 0, 0, 0), (.iadd, 1, 0, 0, 0)] (pc1 := 25) (lo1 := [some (.ref 47), some (.int pe), some (.int dy), some (.int (nI k))]) (st1 := [.int (229 + (3 * (nI k))), .ref 48]) (μ1 := μ) (vc := True) rfl (by decide +kernel) rfl trivial ?_
    rw [(show (229 + (3 * (nI k)) : Int32) = nI (229 + (3 * (k))) from by simp only [nI, Int32.ofNat_add, Int32.ofNat_mul]; rfl).trans (congrArg nI (show 229 + (3 * (k)) = 229 + 3 * k from by omega))]
    refine pm_bl [(.iaload, 1, 0, 0, 0)] (pc1 := 26) (lo1 := [some (.ref 47), some (.int pe), some (.int dy), some (.int (nI k))]) (st1 := [.int (μ.1 48 (nI (229 + 3 * k)).toNatClampNeg)]) (μ1 := μ) (vc := vp_in (nI (229 + 3 * k)) 620 ∧ True) rfl (by decide +kernel) rfl ⟨(vp_in_nI (by omega) (by omega)), trivial⟩ ?_
    first | rw [nI_clamp (n := 229 + 3 * k) (by omega), hM] | rw [hM]
    refine pm_bl [(.iload_n 1, 1, 1, 0, 0)] (pc1 := 27) (lo1 := [some (.ref 47), some (.int pe), some (.int dy), some (.int (nI k))]) (st1 := [.int pe, .int (g (229 + 3 * k))]) (μ1 := μ) (vc := True) rfl (by decide +kernel) rfl trivial ?_
    refine pm_icmp_ne (off := 40) 67 (by decide +kernel) (by decide) (fun (h27 : ¬ (g (229 + 3 * k)) = pe) => ?_) (fun (h27 : (g (229 + 3 * k)) = pe) => ?_)
    · refine pm_bl [(.iinc 3 1, 3, 3, 0, 1), (.goto (-68), 3, 2, 0, 0)] (pc1 := 2) (lo1 := [some (.ref 47), some (.int pe), some (.int dy), some (.int ((nI k) + 1))]) (st1 := []) (μ1 := μ) (vc := True) rfl (by decide +kernel) rfl trivial ?_
      rw [nI_1]; exact ih (k + 1) (by omega) (by rw [he]; simp only [lr_any]; rw [if_neg (by simp_all)])
    · refine pm_bl [(.iload_n 2, 1, 2, 0, 0), (.aload_n 0, 1, 0, 0, 0), (.getfield 7, 3, 10, 0, 0), (.sipush 229, 3, 0, 0, 229), (.iconst 3, 1, 0, 0, 3), (.iload_n 3, 1, 3, 0, 0), (.imul, 1, 0, 0, 0), (.iadd, 1, 0, 0, 0), (.iconst 1, 1, 0, 0, 1), (.iadd, 1, 0, 0, 0)] (pc1 := 44) (lo1 := [some (.ref 47), some (.int pe), some (.int dy), some (.int (nI k))]) (st1 := [.int ((229 + (3 * (nI k))) + 1), .ref 48, .int dy]) (μ1 := μ) (vc := True) rfl (by decide +kernel) rfl trivial ?_
      rw [(show ((229 + (3 * (nI k))) + 1 : Int32) = nI ((229 + (3 * (k))) + 1) from by simp only [nI, Int32.ofNat_add, Int32.ofNat_mul]; rfl).trans (congrArg nI (show (229 + (3 * (k))) + 1 = 230 + 3 * k from by omega))]
      refine pm_bl [(.iaload, 1, 0, 0, 0)] (pc1 := 45) (lo1 := [some (.ref 47), some (.int pe), some (.int dy), some (.int (nI k))]) (st1 := [.int (μ.1 48 (nI (230 + 3 * k)).toNatClampNeg), .int dy]) (μ1 := μ) (vc := vp_in (nI (230 + 3 * k)) 620 ∧ True) rfl (by decide +kernel) rfl ⟨(vp_in_nI (by omega) (by omega)), trivial⟩ ?_
      first | rw [nI_clamp (n := 230 + 3 * k) (by omega), hM] | rw [hM]
      refine pm_bl [(.aload_n 0, 1, 0, 0, 0), (.getfield 7, 3, 10, 0, 0), (.sipush 229, 3, 0, 0, 229), (.iconst 3, 1, 0, 0, 3), (.iload_n 3, 1, 3, 0, 0), (.imul, 1, 0, 0, 0), (.iadd, 1, 0, 0, 0), (.iconst 2, 1, 0, 0, 2), (.iadd, 1, 0, 0, 0)] (pc1 := 58) (lo1 := [some (.ref 47), some (.int pe), some (.int dy), some (.int (nI k))]) (st1 := [.int ((229 + (3 * (nI k))) + 2), .ref 48, .int (g (230 + 3 * k)), .int dy]) (μ1 := μ) (vc := True) rfl (by decide +kernel) rfl trivial ?_
      rw [(show ((229 + (3 * (nI k))) + 2 : Int32) = nI ((229 + (3 * (k))) + 2) from by simp only [nI, Int32.ofNat_add, Int32.ofNat_mul]; rfl).trans (congrArg nI (show (229 + (3 * (k))) + 2 = 231 + 3 * k from by omega))]
      refine pm_bl [(.iaload, 1, 0, 0, 0)] (pc1 := 59) (lo1 := [some (.ref 47), some (.int pe), some (.int dy), some (.int (nI k))]) (st1 := [.int (μ.1 48 (nI (231 + 3 * k)).toNatClampNeg), .int (g (230 + 3 * k)), .int dy]) (μ1 := μ) (vc := vp_in (nI (231 + 3 * k)) 620 ∧ True) rfl (by decide +kernel) rfl ⟨(vp_in_nI (by omega) (by omega)), trivial⟩ ?_
      first | rw [nI_clamp (n := 231 + 3 * k) (by omega), hM] | rw [hM]
      refine pm_callS2 mi_X10_in (ix := 45) (kc2 := 0) (ks2 := 0) (As := [.int dy, .int (g (230 + 3 * k)), .int (g (231 + 3 * k))]) (rest := []) (c_X10_in dy (g (230 + 3 * k)) (g (231 + 3 * k)) μ) cal_X10_in lk10_45 (by decide +kernel) rfl (by decide +kernel) rfl rfl (Nat.le_of_ble_eq_true rfl) (by decide) (by decide) (fun _ _ h9 => h9.elim) ?_
      rintro _ _ ⟨rfl, h9⟩; rw [h9]; clear h9
      show pm_V _ _ _ _ 62 _ [.int (lr_b (lr_in dy (g (230 + 3 * k)) (g (231 + 3 * k))))] _
      refine pm_ifb_eq (off := 5) 67 (by decide +kernel) (by decide) (fun (h62 : (lr_in dy (g (230 + 3 * k)) (g (231 + 3 * k))) = false) => ?_) (fun (h62 : (lr_in dy (g (230 + 3 * k)) (g (231 + 3 * k))) = true) => ?_)
      · refine pm_bl [(.iinc 3 1, 3, 3, 0, 1), (.goto (-68), 3, 2, 0, 0)] (pc1 := 2) (lo1 := [some (.ref 47), some (.int pe), some (.int dy), some (.int ((nI k) + 1))]) (st1 := []) (μ1 := μ) (vc := True) rfl (by decide +kernel) rfl trivial ?_
        rw [nI_1]; exact ih (k + 1) (by omega) (by rw [he]; simp only [lr_any]; rw [if_neg (by simp_all)])
      · refine pm_bl [(.iconst 1, 1, 0, 0, 1)] (pc1 := 66) (lo1 := [some (.ref 47), some (.int pe), some (.int dy), some (.int (nI k))]) (st1 := [.int 1]) (μ1 := μ) (vc := True) rfl (by decide +kernel) rfl trivial ?_
        exact pm_iret (ty := .boolean) rfl (rfl) (by decide) (by decide) (by decide +kernel) (⟨by rw [he]; simp only [lr_any]; rw [if_pos (by simp_all)]; rfl, rfl⟩)
set_option maxHeartbeats 4000000 in
set_option maxRecDepth 100000 in
theorem c_X10_isAbsent {g : Nat → Int32} (pe dy : Int32) (μ : pm_Mm) (hM : μ.1 48 = g) (hG : lr_G g) : pm_CT mi_X10_isAbsent [.ref 47, .int pe, .int dy] μ (fun v μ2 => v = some (.int (lr_b (lr_abs g pe dy))) ∧ μ2 = μ) pm_NX := by
  refine pm_CT_of (lo := [some (.ref 47), some (.int pe), some (.int dy), none]) (by decide +kernel) rfl rfl (by intro v hv; simp at hv; rcases hv with rfl | rfl | rfl <;> rfl) (Nat.le_of_ble_eq_true rfl) rfl ?_
  refine pm_bl [(.iconst 0, 1, 0, 0, 0), (.istore_n 3, 1, 3, 0, 0)] (pc1 := 2) (lo1 := [some (.ref 47), some (.int pe), some (.int dy), some (.int 0)]) (st1 := []) (μ1 := μ) (vc := True) rfl (by decide +kernel) rfl trivial ?_
  exact l_X10_isAbsent pe dy μ hM hG (lr_n g 228) 0 (Nat.zero_add _) rfl
theorem lr_ld_neg {g : Nat → Int32} (hG : lr_G g) (k s d : Int32) : lr_ld g k s d < 0 ↔ lr_ld g k s d = -1 := by
  rcases lr_ld_ok hG k s d with e | ⟨t, h1, h2⟩
  · rw [e]; decide
  · rw [h1]; have := lr_mh hG; exact ⟨fun h => absurd h (nI_pos (by omega)), fun h => absurd h (lr_ne1 (by omega))⟩
set_option maxHeartbeats 4000000 in
set_option maxRecDepth 100000 in
theorem c_X10_wayBegins {g : Nat → Int32} {p : Nat} (dy : Int32) (μ : pm_Mm) (hM : μ.1 48 = g) (hG : lr_G g) (hp : p < lr_n g 35) : pm_CT mi_X10_wayBegins [.ref 47, .int (nI p), .int dy] μ (fun v μ2 => v = some (.int (lr_wb g p dy)) ∧ μ2 = μ) pm_NX := by
  refine pm_CT_of (lo := [some (.ref 47), some (.int (nI p)), some (.int dy), none]) (by decide +kernel) rfl rfl (by intro v hv; simp at hv; rcases hv with rfl | rfl | rfl <;> rfl) (Nat.le_of_ble_eq_true rfl) rfl ?_
  have hm1 := lr_mh hG; have hm2 := lr_mw hG; have hm3 := lr_mp hG; have hm4 := lr_mr hG; have hm5 := lr_ma hG; have hm6 := lr_ml hG
  refine pm_bl [(.aload_n 0, 1, 0, 0, 0), (.iconst 0, 1, 0, 0, 0), (.iload_n 1, 1, 1, 0, 0), (.iload_n 2, 1, 2, 0, 0)] (pc1 := 4) (lo1 := [some (.ref 47), some (.int (nI p)), some (.int dy), none]) (st1 := [.int dy, .int (nI p), .int 0, .ref 47]) (μ1 := μ) (vc := True) rfl (by decide +kernel) rfl trivial ?_
  refine pm_callV2 mi_X10_leads (ix := 87) (b := 47) (ci := 10) (kc2 := 0) (ks2 := 0) (As := [.int 0, .int (nI p), .int dy]) (rest := []) (c_X10_leads 0 (nI p) dy μ hM hG) cal_X10_leads lk10_87 (by decide +kernel) rfl (by decide +kernel) rfl rfl rfl rfl (Nat.le_of_ble_eq_true rfl) (by decide) (by decide) (fun _ _ h9 => h9.elim) ?_
  rintro _ _ ⟨rfl, h9⟩; rw [h9]; clear h9
  show pm_V _ _ _ _ 7 _ [.int (lr_ld g 0 (nI p) dy)] _
  refine pm_bl [(.istore_n 3, 1, 3, 0, 0), (.iload_n 3, 1, 3, 0, 0)] (pc1 := 9) (lo1 := [some (.ref 47), some (.int (nI p)), some (.int dy), some (.int (lr_ld g 0 (nI p) dy))]) (st1 := [.int (lr_ld g 0 (nI p) dy)]) (μ1 := μ) (vc := True) rfl (by decide +kernel) rfl trivial ?_
  refine pm_if_ge (off := 11) 20 (by decide +kernel) (by decide) (fun (h9 : 0 ≤ (lr_ld g 0 (nI p) dy)) => ?_) (fun (h9 : ¬ (0 ≤ (lr_ld g 0 (nI p) dy))) => ?_)
  · refine pm_bl [(.iload_n 3, 1, 3, 0, 0)] (pc1 := 21) (lo1 := [some (.ref 47), some (.int (nI p)), some (.int dy), some (.int (lr_ld g 0 (nI p) dy))]) (st1 := [.int (lr_ld g 0 (nI p) dy)]) (μ1 := μ) (vc := True) rfl (by decide +kernel) rfl trivial ?_
    exact pm_iret (ty := .int) rfl rfl (by decide) (by decide) (by decide +kernel) (⟨by unfold lr_wb; first | (rw [if_pos ((lr_ld_neg hG _ _ _).mp (Int32.not_le.mp h9))]; done) | (rw [if_neg (fun h => absurd ((lr_ld_neg hG _ _ _).mpr h) (Int32.not_lt.mpr h9))]), rfl⟩)
  · refine pm_bl [(.aload_n 0, 1, 0, 0, 0), (.iload_n 1, 1, 1, 0, 0)] (pc1 := 14) (lo1 := [some (.ref 47), some (.int (nI p)), some (.int dy), some (.int (lr_ld g 0 (nI p) dy))]) (st1 := [.int (nI p), .ref 47]) (μ1 := μ) (vc := True) rfl (by decide +kernel) rfl trivial ?_
    refine pm_callV2 mi_X10_houseOf (ix := 112) (b := 47) (ci := 10) (kc2 := 0) (ks2 := 0) (As := [.int (nI p)]) (rest := []) (c_X10_houseOf (h := p) μ hM (by omega)) cal_X10_houseOf lk10_112 (by decide +kernel) rfl (by decide +kernel) rfl rfl rfl rfl (Nat.le_of_ble_eq_true rfl) (by decide) (by decide) (fun _ _ h9 => h9.elim) ?_
    rintro _ _ ⟨rfl, h9⟩; rw [h9]; clear h9
    show pm_V _ _ _ _ 17 _ [.int (g (36 + 4 * p))] _
    refine pm_bl [(.goto 4, 3, 21, 0, 0)] (pc1 := 21) (lo1 := [some (.ref 47), some (.int (nI p)), some (.int dy), some (.int (lr_ld g 0 (nI p) dy))]) (st1 := [.int (g (36 + 4 * p))]) (μ1 := μ) (vc := True) rfl (by decide +kernel) rfl trivial ?_
    exact pm_iret (ty := .int) rfl rfl (by decide) (by decide) (by decide +kernel) (⟨by unfold lr_wb; first | (rw [if_pos ((lr_ld_neg hG _ _ _).mp (Int32.not_le.mp h9))]; done) | (rw [if_neg (fun h => absurd ((lr_ld_neg hG _ _ _).mpr h) (Int32.not_lt.mpr h9))]), rfl⟩)
theorem lr_on_end {g : Nat → Int32} (d : Int32) : ∀ (n : Nat) (h : Int32), ¬ h = -1 → lr_on g d (n + 1) h = -1 → lr_ld g 1 (lr_it g d n h) d = -1
  | 0, h, hh, e => by
    simp only [lr_on, if_neg hh] at e
    simp only [lr_it]
    exact e
  | n + 1, h, hh, e => by
    by_cases q : lr_ld g 1 h d = -1
    · simp only [lr_it, if_pos q]
      exact q
    · simp only [lr_it, if_neg q]
      have e2 : lr_on g d (n + 1) (lr_ld g 1 h d) = -1 := by
        rw [lr_on, if_neg hh] at e
        exact e
      exact lr_on_end d n _ q e2
theorem lr_on_ok {g : Nat → Int32} (hG : lr_G g) (d : Int32) : ∀ (n : Nat) (h : Int32), (h = -1 ∨ ∃ t, h = nI t ∧ t < lr_n g 2) → lr_on g d n h = -1 ∨ ∃ t, lr_on g d n h = nI t ∧ t < lr_n g 2
  | 0, h, hh => hh
  | n + 1, h, hh => by
    unfold lr_on
    split
    · rename_i e; exact Or.inl e
    · exact lr_on_ok hG d n _ (lr_ld_ok hG 1 h d)
theorem lr_any_f {p : Nat → Bool} : ∀ {n k : Nat}, lr_any p n k = false → ∀ i, k ≤ i → i < k + n → p i = false
  | 0, k, _, i, h1, h2 => by omega
  | n + 1, k, h, i, h1, h2 => by
    unfold lr_any at h
    split at h
    · cases h
    · rename_i hk
      by_cases e : i = k
      · subst e; simpa using hk
      · exact lr_any_f h i (by omega) (by omega)
theorem lr_X_on {g : Nat → Int32} (hG : lr_G g) (hX : lr_X g) {d h : Nat} (hd : d ≤ 365) (hh : h < lr_n g 2) : lr_on g (nI d) 17 (nI h) = -1 := by
  have h1 := lr_any_f (hX d hd) h (Nat.zero_le h) (by omega)
  have hm := lr_mh hG
  rcases lr_on_ok hG (nI d) 17 (nI h) (Or.inr ⟨h, rfl, hh⟩) with e | ⟨t, e, ht⟩
  · exact e
  · rw [e] at h1
    simp [nI_pos' (n := t) (by omega)] at h1
set_option maxHeartbeats 4000000 in
set_option maxRecDepth 100000 in
theorem l_X10_wayEnds {g : Nat → Int32} (p N : Nat) (dy h0 : Int32) (μ : pm_Mm) (hM : μ.1 48 = g) (hG : lr_G g) : ∀ n : Nat, ∀ h : Int32, ¬ h = -1 → lr_on g dy (n + 1) h = -1 → lr_it g dy N h0 = lr_it g dy n h → pm_V mi_X10_wayEnds ((fun v μ2 => v = some (.int (lr_it g dy N h0)) ∧ μ2 = μ), pm_NX, fun _ _ _ => True) 0 0 7 [some (.ref 47), some (.int (nI p)), some (.int dy), some (.int h)] [] μ := by
  intro n
  induction n with
  | zero =>
    intro h hh he hi
    have hend := lr_on_end dy 0 h hh he
    simp only [lr_it] at hend hi
    refine pm_bl [(.aload_n 0, 1, 0, 0, 0), (.iconst 1, 1, 0, 0, 1), (.iload_n 3, 1, 3, 0, 0), (.iload_n 2, 1, 2, 0, 0)] (pc1 := 11) (lo1 := [some (.ref 47), some (.int (nI p)), some (.int dy), some (.int h)]) (st1 := [.int dy, .int h, .int 1, .ref 47]) (μ1 := μ) (vc := True) rfl (by decide +kernel) rfl trivial ?_
    refine pm_callV2 mi_X10_leads (ix := 87) (b := 47) (ci := 10) (kc2 := 0) (ks2 := 0) (As := [.int 1, .int h, .int dy]) (rest := []) (c_X10_leads 1 h dy μ hM hG) cal_X10_leads lk10_87 (by decide +kernel) rfl (by decide +kernel) rfl rfl rfl rfl (Nat.le_of_ble_eq_true rfl) (by decide) (by decide) (fun _ _ h9 => h9.elim) ?_
    rintro _ _ ⟨rfl, h9⟩; rw [h9]; clear h9
    show pm_V _ _ _ _ 14 _ [.int (lr_ld g 1 h dy)] _
    refine pm_if_lt (off := 14) 28 (by decide +kernel) (by decide) (fun (h14 : (lr_ld g 1 h dy) < 0) => ?_) (fun (h9 : ¬ ((lr_ld g 1 h dy) < 0)) => absurd (by rw [hend]; decide) h9)
    refine pm_bl [(.iload_n 3, 1, 3, 0, 0)] (pc1 := 29) (lo1 := [some (.ref 47), some (.int (nI p)), some (.int dy), some (.int h)]) (st1 := [.int h]) (μ1 := μ) (vc := True) rfl (by decide +kernel) rfl trivial ?_
    exact pm_iret (ty := .int) rfl rfl (by decide) (by decide) (by decide +kernel) (⟨by rw [hi], rfl⟩)
  | succ n ih =>
    intro h hh he hi
    refine pm_bl [(.aload_n 0, 1, 0, 0, 0), (.iconst 1, 1, 0, 0, 1), (.iload_n 3, 1, 3, 0, 0), (.iload_n 2, 1, 2, 0, 0)] (pc1 := 11) (lo1 := [some (.ref 47), some (.int (nI p)), some (.int dy), some (.int h)]) (st1 := [.int dy, .int h, .int 1, .ref 47]) (μ1 := μ) (vc := True) rfl (by decide +kernel) rfl trivial ?_
    refine pm_callV2 mi_X10_leads (ix := 87) (b := 47) (ci := 10) (kc2 := 0) (ks2 := 0) (As := [.int 1, .int h, .int dy]) (rest := []) (c_X10_leads 1 h dy μ hM hG) cal_X10_leads lk10_87 (by decide +kernel) rfl (by decide +kernel) rfl rfl rfl rfl (Nat.le_of_ble_eq_true rfl) (by decide) (by decide) (fun _ _ h9 => h9.elim) ?_
    rintro _ _ ⟨rfl, h9⟩; rw [h9]; clear h9
    show pm_V _ _ _ _ 14 _ [.int (lr_ld g 1 h dy)] _
    refine pm_if_lt (off := 14) 28 (by decide +kernel) (by decide) (fun (h14 : (lr_ld g 1 h dy) < 0) => ?_) (fun (h14 : ¬ ((lr_ld g 1 h dy) < 0)) => ?_)
    · refine pm_bl [(.iload_n 3, 1, 3, 0, 0)] (pc1 := 29) (lo1 := [some (.ref 47), some (.int (nI p)), some (.int dy), some (.int h)]) (st1 := [.int h]) (μ1 := μ) (vc := True) rfl (by decide +kernel) rfl trivial ?_
      exact pm_iret (ty := .int) rfl rfl (by decide) (by decide) (by decide +kernel) (⟨by rw [hi]; simp only [lr_it]; rw [if_pos ((lr_ld_neg hG _ _ _).mp h14)], rfl⟩)
    · refine pm_bl [(.aload_n 0, 1, 0, 0, 0), (.iconst 1, 1, 0, 0, 1), (.iload_n 3, 1, 3, 0, 0), (.iload_n 2, 1, 2, 0, 0)] (pc1 := 21) (lo1 := [some (.ref 47), some (.int (nI p)), some (.int dy), some (.int h)]) (st1 := [.int dy, .int h, .int 1, .ref 47]) (μ1 := μ) (vc := True) rfl (by decide +kernel) rfl trivial ?_
      refine pm_callV2 mi_X10_leads (ix := 87) (b := 47) (ci := 10) (kc2 := 0) (ks2 := 0) (As := [.int 1, .int h, .int dy]) (rest := []) (c_X10_leads 1 h dy μ hM hG) cal_X10_leads lk10_87 (by decide +kernel) rfl (by decide +kernel) rfl rfl rfl rfl (Nat.le_of_ble_eq_true rfl) (by decide) (by decide) (fun _ _ h9 => h9.elim) ?_
      rintro _ _ ⟨rfl, h9⟩; rw [h9]; clear h9
      show pm_V _ _ _ _ 24 _ [.int (lr_ld g 1 h dy)] _
      refine pm_bl [(.istore_n 3, 1, 3, 0, 0), (.goto (-18), 3, 7, 0, 0)] (pc1 := 7) (lo1 := [some (.ref 47), some (.int (nI p)), some (.int dy), some (.int (lr_ld g 1 h dy))]) (st1 := []) (μ1 := μ) (vc := True) rfl (by decide +kernel) rfl trivial ?_
      have q : ¬ lr_ld g 1 h dy = -1 := fun q => h14 ((lr_ld_neg hG _ _ _).mpr q)
      exact ih _ q (by rw [lr_on, if_neg hh] at he; exact he) (by rw [hi]; simp only [lr_it]; rw [if_neg q])
set_option maxHeartbeats 4000000 in
set_option maxRecDepth 100000 in
theorem c_X10_wayEnds {g : Nat → Int32} {p d : Nat} {dy : Int32} (μ : pm_Mm) (hM : μ.1 48 = g) (hG : lr_G g) (hX : lr_X g) (hdy : dy = nI d) (hd : d ≤ 365) (hp : p < lr_n g 35) : pm_CT mi_X10_wayEnds [.ref 47, .int (nI p), .int dy] μ (fun v μ2 => v = some (.int (lr_we g p dy)) ∧ μ2 = μ) pm_NX := by
  refine pm_CT_of (lo := [some (.ref 47), some (.int (nI p)), some (.int dy), none]) (by decide +kernel) rfl rfl (by intro v hv; simp at hv; rcases hv with rfl | rfl | rfl <;> rfl) (Nat.le_of_ble_eq_true rfl) rfl ?_
  have hm1 := lr_mh hG; have hm2 := lr_mw hG; have hm3 := lr_mp hG; have hm4 := lr_mr hG; have hm5 := lr_ma hG; have hm6 := lr_ml hG
  obtain ⟨b0, hb0, hb1⟩ := lr_wb_ok hG hp dy
  refine pm_bl [(.aload_n 0, 1, 0, 0, 0), (.iload_n 1, 1, 1, 0, 0), (.iload_n 2, 1, 2, 0, 0)] (pc1 := 3) (lo1 := [some (.ref 47), some (.int (nI p)), some (.int dy), none]) (st1 := [.int dy, .int (nI p), .ref 47]) (μ1 := μ) (vc := True) rfl (by decide +kernel) rfl trivial ?_
  refine pm_callV2 mi_X10_wayBegins (ix := 115) (b := 47) (ci := 10) (kc2 := 0) (ks2 := 0) (As := [.int (nI p), .int dy]) (rest := []) (c_X10_wayBegins (p := p) dy μ hM hG (by omega)) cal_X10_wayBegins lk10_115 (by decide +kernel) rfl (by decide +kernel) rfl rfl rfl rfl (Nat.le_of_ble_eq_true rfl) (by decide) (by decide) (fun _ _ h9 => h9.elim) ?_
  rintro _ _ ⟨rfl, h9⟩; rw [h9]; clear h9
  show pm_V _ _ _ _ 6 _ [.int (lr_wb g p dy)] _
  refine pm_bl [(.istore_n 3, 1, 3, 0, 0)] (pc1 := 7) (lo1 := [some (.ref 47), some (.int (nI p)), some (.int dy), some (.int (lr_wb g p dy))]) (st1 := []) (μ1 := μ) (vc := True) rfl (by decide +kernel) rfl trivial ?_
  exact l_X10_wayEnds p 16 dy _ μ hM hG 16 _ (by rw [hb0]; exact lr_ne1 (by omega)) (by rw [hb0, hdy]; exact lr_X_on hG hX hd hb1) rfl
