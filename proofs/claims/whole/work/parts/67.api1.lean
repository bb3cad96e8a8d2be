/-! the class: houses, persons, walks, stops -/
theorem lr_i32_lt5 (x : Int32) (a : Nat) (ha : a < 1000) : (nI a < x) ↔ (nI (a + 1) ≤ x) := by
  rw [Int32.lt_iff_toInt_lt, Int32.le_iff_toInt_le, nI_toInt (by omega), nI_toInt (by omega)]; omega
theorem lr_be5 (x : Int32) : lr_be x 5 = lr_in x 0 4 := by
  unfold lr_be lr_in
  rw [show decide ((5 : Int32) ≤ x) = decide ((4 : Int32) < x) from by
    rw [decide_eq_decide]; exact (lr_i32_lt5 x 4 (by omega)).symm]
theorem lr_wok_f {x1 x2 x3 x4 x5 : Int32} (h : lr_in x1 0 4 = true) (h2 : lr_in x2 0 2 = true) (h3 : lr_in x3 0 1 = true) (h4 : lr_in x4 1 99 = true) (h5 : lr_in x5 1 99 = true) (h6 : x4 ≤ x5) : lr_wok x1 x2 x3 x4 x5 = true := by
  unfold lr_wok lr_in at *
  simp only [Bool.and_eq_true, Bool.not_eq_true', decide_eq_false_iff_not, decide_eq_true_eq] at *
  exact ⟨⟨⟨⟨h, h2⟩, h3⟩, ⟨h4.1, Int32.not_lt.mpr h6⟩⟩, Int32.not_lt.mp h5.2⟩
theorem lr_wok_t {x1 x2 x3 x4 x5 : Int32} (h : lr_wok x1 x2 x3 x4 x5 = true) : lr_in x1 0 4 = true ∧ lr_in x2 0 2 = true ∧ lr_in x3 0 1 = true ∧ lr_in x4 1 99 = true ∧ lr_in x5 1 99 = true ∧ x4 ≤ x5 := by
  unfold lr_wok lr_in at *
  simp only [Bool.and_eq_true, Bool.not_eq_true', decide_eq_false_iff_not, decide_eq_true_eq] at *
  obtain ⟨⟨⟨⟨a, b⟩, c⟩, d, e⟩, f⟩ := h
  have e' := Int32.not_lt.mp e
  exact ⟨a, b, c, ⟨d, Int32.not_lt.mpr (Int32.le_trans e' f)⟩, ⟨fun q => d (Int32.lt_of_le_of_lt e' q), Int32.not_lt.mpr f⟩, e'⟩
set_option maxHeartbeats 4000000 in
set_option maxRecDepth 100000 in
theorem c_X9_addHouse_no1 {g : Nat → Int32} {st nu : Int32} (μ : pm_Mm) (hR : lr_Rel μ.1 1 g) (hG : lr_G g) (ho : lr_hok g st nu = false) : pm_CT mi_X9_addHouse [.ref 0, .int st, .int nu] μ (fun _ _ => False) (fun E μ2 => E = "java/lang/IllegalArgumentException" ∧ μ2 = μ) := by
  refine pm_CT_of (lo := [some (.ref 0), some (.int st), some (.int nu)]) (by decide +kernel) rfl rfl (by intro v hv; simp at hv; rcases hv with rfl | rfl | rfl <;> rfl) (Nat.le_of_ble_eq_true rfl) rfl ?_
  have hm1 := lr_mh hG; have hm2 := lr_mw hG; have hm3 := lr_mp hG; have hm4 := lr_mr hG; have hm5 := lr_ma hG; have hm6 := lr_ml hG
  refine pm_bl [(.iload_n 1, 1, 1, 0, 0)] (pc1 := 1) (lo1 := [some (.ref 0), some (.int st), some (.int nu)]) (st1 := [.int st]) (μ1 := μ) (vc := True) rfl (by decide +kernel) rfl trivial ?_
  refine pm_callS2 mi_X9_isStreet (ix := 44) (kc2 := 0) (ks2 := 0) (As := [.int st]) (rest := []) (c_X9_isStreet st μ) cal_X9_isStreet lk9_44 (by decide +kernel) rfl (by decide +kernel) rfl rfl (Nat.le_of_ble_eq_true rfl) (by decide) (by decide) (fun _ _ h9 => h9.elim) ?_
  rintro _ _ ⟨rfl, h9⟩; rw [h9]; clear h9
  show pm_V _ _ _ _ 4 _ [.int (lr_b (lr_be st 5))] _
  refine pm_ifb_eq (off := 10) 14 (by decide +kernel) (by decide) (fun (h4 : (lr_be st 5) = false) => ?_) (fun (h4 : (lr_be st 5) = true) => ?_)
  · exact pm_throw (is := 53) (tx := "the street or the house number is out of range") pm_exIA rfl (by decide +kernel) rfl (by decide +kernel) (by decide +kernel) (by decide +kernel) (by decide +kernel) (by decide +kernel) (by decide) (by decide) (⟨rfl, rfl⟩)
  · refine pm_bl [(.iload_n 2, 1, 2, 0, 0)] (pc1 := 8) (lo1 := [some (.ref 0), some (.int st), some (.int nu)]) (st1 := [.int nu]) (μ1 := μ) (vc := True) rfl (by decide +kernel) rfl trivial ?_
    refine pm_callS2 mi_X9_isHouseNumber (ix := 48) (kc2 := 0) (ks2 := 0) (As := [.int nu]) (rest := []) (c_X9_isHouseNumber nu μ) cal_X9_isHouseNumber lk9_48 (by decide +kernel) rfl (by decide +kernel) rfl rfl (Nat.le_of_ble_eq_true rfl) (by decide) (by decide) (fun _ _ h9 => h9.elim) ?_
    rintro _ _ ⟨rfl, h9⟩; rw [h9]; clear h9
    show pm_V _ _ _ _ 11 _ [.int (lr_b (lr_in nu 1 99))] _
    refine pm_ifb_ne (off := 13) 24 (by decide +kernel) (by decide) (fun (h11 : (lr_in nu 1 99) = true) => ?_) (fun (h11 : (lr_in nu 1 99) = false) => ?_)
    · refine pm_bl [(.aload_n 0, 1, 0, 0, 0), (.getfield 10, 3, 9, 0, 0), (.getfield 58, 3, 5, 0, 0), (.iload_n 1, 1, 1, 0, 0), (.iload_n 2, 1, 2, 0, 0)] (pc1 := 33) (lo1 := [some (.ref 0), some (.int st), some (.int nu)]) (st1 := [.int nu, .int st, .ref 2]) (μ1 := μ) (vc := True) rfl (by decide +kernel) rfl trivial ?_
      refine pm_callV2 mi_X3_contains (ix := 62) (b := 2) (ci := 3) (kc2 := 0) (ks2 := 0) (As := [.int st, .int nu]) (rest := []) (c_X3_contains st nu μ hR hG) cal_X3_contains lk9_62 (by decide +kernel) rfl (by decide +kernel) rfl rfl rfl rfl (Nat.le_of_ble_eq_true rfl) (by decide) (by decide) (fun _ _ h9 => h9.elim) ?_
      rintro _ _ ⟨rfl, h9⟩; rw [h9]; clear h9
      show pm_V _ _ _ _ 36 _ [.int (lr_b (lr_hex g st nu))] _
      refine pm_ifb_eq (off := 13) 49 (by decide +kernel) (by decide) (fun (h9 : (lr_hex g st nu) = false) => absurd ho (by rw [lr_be5] at h4; unfold lr_hok; rw [h4, h11, h9]; decide)) (fun (h36 : (lr_hex g st nu) = true) => ?_)
      exact pm_throw (is := 68) (tx := "there is such a house") pm_exIA rfl (by decide +kernel) rfl (by decide +kernel) (by decide +kernel) (by decide +kernel) (by decide +kernel) (by decide +kernel) (by decide) (by decide) (⟨rfl, rfl⟩)
    · exact pm_throw (is := 53) (tx := "the street or the house number is out of range") pm_exIA rfl (by decide +kernel) rfl (by decide +kernel) (by decide +kernel) (by decide +kernel) (by decide +kernel) (by decide +kernel) (by decide) (by decide) (⟨rfl, rfl⟩)
set_option maxHeartbeats 4000000 in
set_option maxRecDepth 100000 in
theorem c_X9_addHouse_no2 {g : Nat → Int32} {st nu : Int32} (μ : pm_Mm) (hR : lr_Rel μ.1 1 g) (hG : lr_G g) (ho : lr_hok g st nu = true) (hn : lr_n g 2 = 16) : pm_CT mi_X9_addHouse [.ref 0, .int st, .int nu] μ (fun _ _ => False) (fun E μ2 => E = "java/lang/IllegalStateException" ∧ μ2 = μ) := by
  refine pm_CT_of (lo := [some (.ref 0), some (.int st), some (.int nu)]) (by decide +kernel) rfl rfl (by intro v hv; simp at hv; rcases hv with rfl | rfl | rfl <;> rfl) (Nat.le_of_ble_eq_true rfl) rfl ?_
  have hm1 := lr_mh hG; have hm2 := lr_mw hG; have hm3 := lr_mp hG; have hm4 := lr_mr hG; have hm5 := lr_ma hG; have hm6 := lr_ml hG
  have ho' : lr_in st 0 4 = true ∧ lr_in nu 1 99 = true ∧ lr_hex g st nu = false := by unfold lr_hok at ho; simp only [Bool.and_eq_true, Bool.not_eq_true'] at ho; exact ⟨ho.1.1, ho.1.2, ho.2⟩
  refine pm_bl [(.iload_n 1, 1, 1, 0, 0)] (pc1 := 1) (lo1 := [some (.ref 0), some (.int st), some (.int nu)]) (st1 := [.int st]) (μ1 := μ) (vc := True) rfl (by decide +kernel) rfl trivial ?_
  refine pm_callS2 mi_X9_isStreet (ix := 44) (kc2 := 0) (ks2 := 0) (As := [.int st]) (rest := []) (c_X9_isStreet st μ) cal_X9_isStreet lk9_44 (by decide +kernel) rfl (by decide +kernel) rfl rfl (Nat.le_of_ble_eq_true rfl) (by decide) (by decide) (fun _ _ h9 => h9.elim) ?_
  rintro _ _ ⟨rfl, h9⟩; rw [h9]; clear h9
  show pm_V _ _ _ _ 4 _ [.int (lr_b (lr_be st 5))] _
  refine pm_ifb_eq (off := 10) 14 (by decide +kernel) (by decide) (fun (h9 : (lr_be st 5) = false) => absurd (h9.symm.trans ((lr_be5 st).trans ho'.1)) (by decide)) (fun (h4 : (lr_be st 5) = true) => ?_)
  refine pm_bl [(.iload_n 2, 1, 2, 0, 0)] (pc1 := 8) (lo1 := [some (.ref 0), some (.int st), some (.int nu)]) (st1 := [.int nu]) (μ1 := μ) (vc := True) rfl (by decide +kernel) rfl trivial ?_
  refine pm_callS2 mi_X9_isHouseNumber (ix := 48) (kc2 := 0) (ks2 := 0) (As := [.int nu]) (rest := []) (c_X9_isHouseNumber nu μ) cal_X9_isHouseNumber lk9_48 (by decide +kernel) rfl (by decide +kernel) rfl rfl (Nat.le_of_ble_eq_true rfl) (by decide) (by decide) (fun _ _ h9 => h9.elim) ?_
  rintro _ _ ⟨rfl, h9⟩; rw [h9]; clear h9
  show pm_V _ _ _ _ 11 _ [.int (lr_b (lr_in nu 1 99))] _
  refine pm_ifb_ne (off := 13) 24 (by decide +kernel) (by decide) (fun (h11 : (lr_in nu 1 99) = true) => ?_) (fun (h9 : (lr_in nu 1 99) = false) => absurd (h9.symm.trans ho'.2.1) (by decide))
  refine pm_bl [(.aload_n 0, 1, 0, 0, 0), (.getfield 10, 3, 9, 0, 0), (.getfield 58, 3, 5, 0, 0), (.iload_n 1, 1, 1, 0, 0), (.iload_n 2, 1, 2, 0, 0)] (pc1 := 33) (lo1 := [some (.ref 0), some (.int st), some (.int nu)]) (st1 := [.int nu, .int st, .ref 2]) (μ1 := μ) (vc := True) rfl (by decide +kernel) rfl trivial ?_
  refine pm_callV2 mi_X3_contains (ix := 62) (b := 2) (ci := 3) (kc2 := 0) (ks2 := 0) (As := [.int st, .int nu]) (rest := []) (c_X3_contains st nu μ hR hG) cal_X3_contains lk9_62 (by decide +kernel) rfl (by decide +kernel) rfl rfl rfl rfl (Nat.le_of_ble_eq_true rfl) (by decide) (by decide) (fun _ _ h9 => h9.elim) ?_
  rintro _ _ ⟨rfl, h9⟩; rw [h9]; clear h9
  show pm_V _ _ _ _ 36 _ [.int (lr_b (lr_hex g st nu))] _
  refine pm_ifb_eq (off := 13) 49 (by decide +kernel) (by decide) (fun (h36 : (lr_hex g st nu) = false) => ?_) (fun (h9 : (lr_hex g st nu) = true) => absurd (h9.symm.trans ho'.2.2) (by decide))
  refine pm_bl [(.aload_n 0, 1, 0, 0, 0), (.getfield 10, 3, 9, 0, 0), (.getfield 58, 3, 5, 0, 0), (.getfield 70, 3, 3, 0, 0)] (pc1 := 59) (lo1 := [some (.ref 0), some (.int st), some (.int nu)]) (st1 := [.int (μ.1 2 0)]) (μ1 := μ) (vc := True) rfl (by decide +kernel) rfl trivial ?_
  rw [lr_rNh hR, lr_gh hG]
  refine pm_bl [(.bipush 16, 2, 0, 0, 16)] (pc1 := 61) (lo1 := [some (.ref 0), some (.int st), some (.int nu)]) (st1 := [.int 16, .int (nI (lr_n g 2))]) (μ1 := μ) (vc := True) rfl (by decide +kernel) rfl trivial ?_
  refine pm_icmp_lt (off := 13) 74 (by decide +kernel) (by decide) (fun (h9 : (nI (lr_n g 2)) < 16) => absurd h9 (by rw [hn]; decide)) (fun (h61 : ¬ ((nI (lr_n g 2)) < 16)) => ?_)
  exact pm_throw (is := 75) (tx := "16 houses were made") pm_exIS rfl (by decide +kernel) rfl (by decide +kernel) (by decide +kernel) (by decide +kernel) (by decide +kernel) (by decide +kernel) (by decide) (by decide) (⟨rfl, rfl⟩)
set_option maxHeartbeats 4000000 in
set_option maxRecDepth 100000 in
theorem c_X9_addHouse {g : Nat → Int32} {c n : Nat} {F : Nat → Nat → Int32} {st nu : Int32} (μ : pm_Mm) (hR : lr_Rel μ.1 1 g) (hG : lr_G g) (ho : lr_hok g st nu = true) (hn : lr_n g 2 < 16) (hH : lr_Hs μ.1 c n F) : pm_CT mi_X9_addHouse [.ref 0, .int st, .int nu] μ (fun v μ2 => v = some (.int (nI (lr_n g 2))) ∧ lr_fc μ μ2 ∧ lr_Rel μ2.1 1 (lr_gX3_add g st nu) ∧ lr_Hs μ2.1 (min (c + 1) 8) ((n + 1) % 8) (lr_psh c F g)) pm_NX := by
  refine pm_CT_of (lo := [some (.ref 0), some (.int st), some (.int nu)]) (by decide +kernel) rfl rfl (by intro v hv; simp at hv; rcases hv with rfl | rfl | rfl <;> rfl) (Nat.le_of_ble_eq_true rfl) rfl ?_
  have hm1 := lr_mh hG; have hm2 := lr_mw hG; have hm3 := lr_mp hG; have hm4 := lr_mr hG; have hm5 := lr_ma hG; have hm6 := lr_ml hG
  have ho' : lr_in st 0 4 = true ∧ lr_in nu 1 99 = true ∧ lr_hex g st nu = false := by unfold lr_hok at ho; simp only [Bool.and_eq_true, Bool.not_eq_true'] at ho; exact ⟨ho.1.1, ho.1.2, ho.2⟩
  refine pm_bl [(.iload_n 1, 1, 1, 0, 0)] (pc1 := 1) (lo1 := [some (.ref 0), some (.int st), some (.int nu)]) (st1 := [.int st]) (μ1 := μ) (vc := True) rfl (by decide +kernel) rfl trivial ?_
  refine pm_callS2 mi_X9_isStreet (ix := 44) (kc2 := 0) (ks2 := 0) (As := [.int st]) (rest := []) (c_X9_isStreet st μ) cal_X9_isStreet lk9_44 (by decide +kernel) rfl (by decide +kernel) rfl rfl (Nat.le_of_ble_eq_true rfl) (by decide) (by decide) (fun _ _ h9 => h9.elim) ?_
  rintro _ _ ⟨rfl, h9⟩; rw [h9]; clear h9
  show pm_V _ _ _ _ 4 _ [.int (lr_b (lr_be st 5))] _
  refine pm_ifb_eq (off := 10) 14 (by decide +kernel) (by decide) (fun (h9 : (lr_be st 5) = false) => absurd (h9.symm.trans ((lr_be5 st).trans ho'.1)) (by decide)) (fun (h4 : (lr_be st 5) = true) => ?_)
  refine pm_bl [(.iload_n 2, 1, 2, 0, 0)] (pc1 := 8) (lo1 := [some (.ref 0), some (.int st), some (.int nu)]) (st1 := [.int nu]) (μ1 := μ) (vc := True) rfl (by decide +kernel) rfl trivial ?_
  refine pm_callS2 mi_X9_isHouseNumber (ix := 48) (kc2 := 0) (ks2 := 0) (As := [.int nu]) (rest := []) (c_X9_isHouseNumber nu μ) cal_X9_isHouseNumber lk9_48 (by decide +kernel) rfl (by decide +kernel) rfl rfl (Nat.le_of_ble_eq_true rfl) (by decide) (by decide) (fun _ _ h9 => h9.elim) ?_
  rintro _ _ ⟨rfl, h9⟩; rw [h9]; clear h9
  show pm_V _ _ _ _ 11 _ [.int (lr_b (lr_in nu 1 99))] _
  refine pm_ifb_ne (off := 13) 24 (by decide +kernel) (by decide) (fun (h11 : (lr_in nu 1 99) = true) => ?_) (fun (h9 : (lr_in nu 1 99) = false) => absurd (h9.symm.trans ho'.2.1) (by decide))
  refine pm_bl [(.aload_n 0, 1, 0, 0, 0), (.getfield 10, 3, 9, 0, 0), (.getfield 58, 3, 5, 0, 0), (.iload_n 1, 1, 1, 0, 0), (.iload_n 2, 1, 2, 0, 0)] (pc1 := 33) (lo1 := [some (.ref 0), some (.int st), some (.int nu)]) (st1 := [.int nu, .int st, .ref 2]) (μ1 := μ) (vc := True) rfl (by decide +kernel) rfl trivial ?_
  refine pm_callV2 mi_X3_contains (ix := 62) (b := 2) (ci := 3) (kc2 := 0) (ks2 := 0) (As := [.int st, .int nu]) (rest := []) (c_X3_contains st nu μ hR hG) cal_X3_contains lk9_62 (by decide +kernel) rfl (by decide +kernel) rfl rfl rfl rfl (Nat.le_of_ble_eq_true rfl) (by decide) (by decide) (fun _ _ h9 => h9.elim) ?_
  rintro _ _ ⟨rfl, h9⟩; rw [h9]; clear h9
  show pm_V _ _ _ _ 36 _ [.int (lr_b (lr_hex g st nu))] _
  refine pm_ifb_eq (off := 13) 49 (by decide +kernel) (by decide) (fun (h36 : (lr_hex g st nu) = false) => ?_) (fun (h9 : (lr_hex g st nu) = true) => absurd (h9.symm.trans ho'.2.2) (by decide))
  refine pm_bl [(.aload_n 0, 1, 0, 0, 0), (.getfield 10, 3, 9, 0, 0), (.getfield 58, 3, 5, 0, 0), (.getfield 70, 3, 3, 0, 0)] (pc1 := 59) (lo1 := [some (.ref 0), some (.int st), some (.int nu)]) (st1 := [.int (μ.1 2 0)]) (μ1 := μ) (vc := True) rfl (by decide +kernel) rfl trivial ?_
  rw [lr_rNh hR, lr_gh hG]
  refine pm_bl [(.bipush 16, 2, 0, 0, 16)] (pc1 := 61) (lo1 := [some (.ref 0), some (.int st), some (.int nu)]) (st1 := [.int 16, .int (nI (lr_n g 2))]) (μ1 := μ) (vc := True) rfl (by decide +kernel) rfl trivial ?_
  refine pm_icmp_lt (off := 13) 74 (by decide +kernel) (by decide) (fun (h61 : (nI (lr_n g 2)) < 16) => ?_) (fun (h9 : ¬ ((nI (lr_n g 2)) < 16)) => absurd (nI_lt (b := 16) hn (by decide)) h9)
  refine pm_bl [(.aload_n 0, 1, 0, 0, 0), (.getfield 19, 3, 9, 1, 0), (.aload_n 0, 1, 0, 0, 0), (.getfield 10, 3, 9, 0, 0)] (pc1 := 82) (lo1 := [some (.ref 0), some (.int st), some (.int nu)]) (st1 := [.ref 1, .ref 45]) (μ1 := μ) (vc := True) rfl (by decide +kernel) rfl trivial ?_
  refine pm_callV2 mi_X2_keep (ix := 78) (b := 45) (ci := 2) (kc2 := 0) (ks2 := 0) (As := [.ref 1]) (rest := []) (c_X2_keep (c := c) (n := n) μ hR hG.B hH.2.1 hH.2.2.2.1 hH.2.2.1 hH.1) cal_X2_keep lk9_78 (by decide +kernel) rfl (by decide +kernel) rfl rfl rfl rfl (Nat.le_of_ble_eq_true rfl) (by decide) (by decide) (fun _ _ h9 => h9.elim) ?_
  rintro _ μ1 ⟨rfl, h2k, hfk, hRk, hck, hnk⟩
  obtain ⟨hFC, hR1, hH1⟩ := lr_keep_ok hR hH h2k hfk hRk hck hnk
  show pm_V _ _ _ _ 85 _ [] _
  refine pm_bl [(.aload_n 0, 1, 0, 0, 0), (.getfield 10, 3, 9, 0, 0), (.getfield 58, 3, 5, 0, 0), (.iload_n 1, 1, 1, 0, 0), (.iload_n 2, 1, 2, 0, 0)] (pc1 := 94) (lo1 := [some (.ref 0), some (.int st), some (.int nu)]) (st1 := [.int nu, .int st, .ref 2]) (μ1 := μ1) (vc := True) rfl (by decide +kernel) rfl trivial ?_
  refine pm_callV2 mi_X3_add (ix := 82) (b := 2) (ci := 3) (kc2 := 0) (ks2 := 0) (As := [.int st, .int nu]) (rest := []) (c_X3_add st nu μ1 hR1 hG hn) cal_X3_add lk9_82 (by decide +kernel) rfl (by decide +kernel) rfl rfl rfl rfl (Nat.le_of_ble_eq_true rfl) (by decide) (by decide) (fun _ _ h9 => h9.elim) ?_
  rintro _ μ3 ⟨rfl, hf3, hR3⟩
  show pm_V _ _ _ _ 97 _ [.int (nI (lr_n g 2))] _
  exact pm_iret (ty := .int) rfl rfl (by decide) (by decide) (by decide +kernel) (⟨rfl, hFC.tr hf3, hR3, hH1.fr (fun i hi => hf3.1 i (by omega))⟩)
set_option maxHeartbeats 4000000 in
set_option maxRecDepth 100000 in
theorem c_X9_addPerson_no1 {g : Nat → Int32} {x : Int32} (μ : pm_Mm) (hR : lr_Rel μ.1 1 g) (hG : lr_G g) (hb : lr_be x (nI (lr_n g 2)) = false) : pm_CT mi_X9_addPerson [.ref 0, .int x] μ (fun _ _ => False) (fun E μ2 => E = "java/lang/IndexOutOfBoundsException" ∧ μ2 = μ) := by
  refine pm_CT_of (lo := [some (.ref 0), some (.int x)]) (by decide +kernel) rfl rfl (by intro v hv; simp at hv; rcases hv with rfl | rfl <;> rfl) (Nat.le_of_ble_eq_true rfl) rfl ?_
  have hm1 := lr_mh hG; have hm2 := lr_mw hG; have hm3 := lr_mp hG; have hm4 := lr_mr hG; have hm5 := lr_ma hG; have hm6 := lr_ml hG
  refine pm_bl [(.aload_n 0, 1, 0, 0, 0), (.iload_n 1, 1, 1, 0, 0)] (pc1 := 2) (lo1 := [some (.ref 0), some (.int x)]) (st1 := [.int x, .ref 0]) (μ1 := μ) (vc := True) rfl (by decide +kernel) rfl trivial ?_
  refine pm_callV2 mi_X9_requireHouse (ix := 86) (b := 0) (ci := 9) (kc2 := 1) (ks2 := 6) (As := [.int x]) (rest := []) (c_X9_requireHouse_no x μ hR hG hb) cal_X9_requireHouse lk9_86 (by decide +kernel) rfl (by decide +kernel) rfl rfl rfl rfl (Nat.le_of_ble_eq_true rfl) (by decide) (by decide) (fun E μ9 h9 => h9) ?_
  rintro _ _ h9; exact h9.elim
set_option maxHeartbeats 4000000 in
set_option maxRecDepth 100000 in
theorem c_X9_addPerson_no2 {g : Nat → Int32} {h : Nat} (μ : pm_Mm) (hR : lr_Rel μ.1 1 g) (hG : lr_G g) (hh : h < lr_n g 2) (hn : lr_n g 35 = 20) : pm_CT mi_X9_addPerson [.ref 0, .int (nI h)] μ (fun _ _ => False) (fun E μ2 => E = "java/lang/IllegalStateException" ∧ μ2 = μ) := by
  refine pm_CT_of (lo := [some (.ref 0), some (.int (nI h))]) (by decide +kernel) rfl rfl (by intro v hv; simp at hv; rcases hv with rfl | rfl <;> rfl) (Nat.le_of_ble_eq_true rfl) rfl ?_
  have hm1 := lr_mh hG; have hm2 := lr_mw hG; have hm3 := lr_mp hG; have hm4 := lr_mr hG; have hm5 := lr_ma hG; have hm6 := lr_ml hG
  refine pm_bl [(.aload_n 0, 1, 0, 0, 0), (.iload_n 1, 1, 1, 0, 0)] (pc1 := 2) (lo1 := [some (.ref 0), some (.int (nI h))]) (st1 := [.int (nI h), .ref 0]) (μ1 := μ) (vc := True) rfl (by decide +kernel) rfl trivial ?_
  refine pm_callV2 mi_X9_requireHouse (ix := 86) (b := 0) (ci := 9) (kc2 := 1) (ks2 := 6) (As := [.int (nI h)]) (rest := []) (c_X9_requireHouse (nI h) μ (by first | exact hR | exact hR1) hG (lr_be_1 hh (by omega))) cal_X9_requireHouse lk9_86 (by decide +kernel) rfl (by decide +kernel) rfl rfl rfl rfl (Nat.le_of_ble_eq_true rfl) (by decide) (by decide) (fun _ _ h9 => h9.elim) ?_
  rintro _ _ ⟨rfl, h9⟩; rw [h9]; clear h9
  show pm_V _ _ _ _ 5 _ [] _
  refine pm_bl [(.aload_n 0, 1, 0, 0, 0), (.getfield 10, 3, 9, 0, 0), (.getfield 90, 3, 5, 1, 0), (.getfield 94, 3, 6, 0, 0)] (pc1 := 15) (lo1 := [some (.ref 0), some (.int (nI h))]) (st1 := [.int (μ.1 5 0)]) (μ1 := μ) (vc := True) rfl (by decide +kernel) rfl trivial ?_
  rw [lr_rNp hR, lr_gp hG]
  refine pm_bl [(.bipush 20, 2, 0, 0, 20)] (pc1 := 17) (lo1 := [some (.ref 0), some (.int (nI h))]) (st1 := [.int 20, .int (nI (lr_n g 35))]) (μ1 := μ) (vc := True) rfl (by decide +kernel) rfl trivial ?_
  refine pm_icmp_lt (off := 13) 30 (by decide +kernel) (by decide) (fun (h9 : (nI (lr_n g 35)) < 20) => absurd h9 (by rw [hn]; decide)) (fun (h17 : ¬ ((nI (lr_n g 35)) < 20)) => ?_)
  exact pm_throw (is := 97) (tx := "20 persons were made") pm_exIS rfl (by decide +kernel) rfl (by decide +kernel) (by decide +kernel) (by decide +kernel) (by decide +kernel) (by decide +kernel) (by decide) (by decide) (⟨rfl, rfl⟩)
set_option maxHeartbeats 4000000 in
set_option maxRecDepth 100000 in
theorem c_X9_addPerson {g : Nat → Int32} {c n : Nat} {F : Nat → Nat → Int32} {h : Nat} (μ : pm_Mm) (hR : lr_Rel μ.1 1 g) (hG : lr_G g) (hh : h < lr_n g 2) (hn : lr_n g 35 < 20) (hH : lr_Hs μ.1 c n F) : pm_CT mi_X9_addPerson [.ref 0, .int (nI h)] μ (fun v μ2 => v = some (.int (nI (lr_n g 35))) ∧ lr_fc μ μ2 ∧ lr_Rel μ2.1 1 (lr_gX6_add g (nI h)) ∧ lr_Hs μ2.1 (min (c + 1) 8) ((n + 1) % 8) (lr_psh c F g)) pm_NX := by
  refine pm_CT_of (lo := [some (.ref 0), some (.int (nI h))]) (by decide +kernel) rfl rfl (by intro v hv; simp at hv; rcases hv with rfl | rfl <;> rfl) (Nat.le_of_ble_eq_true rfl) rfl ?_
  have hm1 := lr_mh hG; have hm2 := lr_mw hG; have hm3 := lr_mp hG; have hm4 := lr_mr hG; have hm5 := lr_ma hG; have hm6 := lr_ml hG
  refine pm_bl [(.aload_n 0, 1, 0, 0, 0), (.iload_n 1, 1, 1, 0, 0)] (pc1 := 2) (lo1 := [some (.ref 0), some (.int (nI h))]) (st1 := [.int (nI h), .ref 0]) (μ1 := μ) (vc := True) rfl (by decide +kernel) rfl trivial ?_
  refine pm_callV2 mi_X9_requireHouse (ix := 86) (b := 0) (ci := 9) (kc2 := 1) (ks2 := 6) (As := [.int (nI h)]) (rest := []) (c_X9_requireHouse (nI h) μ (by first | exact hR | exact hR1) hG (lr_be_1 hh (by omega))) cal_X9_requireHouse lk9_86 (by decide +kernel) rfl (by decide +kernel) rfl rfl rfl rfl (Nat.le_of_ble_eq_true rfl) (by decide) (by decide) (fun _ _ h9 => h9.elim) ?_
  rintro _ _ ⟨rfl, h9⟩; rw [h9]; clear h9
  show pm_V _ _ _ _ 5 _ [] _
  refine pm_bl [(.aload_n 0, 1, 0, 0, 0), (.getfield 10, 3, 9, 0, 0), (.getfield 90, 3, 5, 1, 0), (.getfield 94, 3, 6, 0, 0)] (pc1 := 15) (lo1 := [some (.ref 0), some (.int (nI h))]) (st1 := [.int (μ.1 5 0)]) (μ1 := μ) (vc := True) rfl (by decide +kernel) rfl trivial ?_
  rw [lr_rNp hR, lr_gp hG]
  refine pm_bl [(.bipush 20, 2, 0, 0, 20)] (pc1 := 17) (lo1 := [some (.ref 0), some (.int (nI h))]) (st1 := [.int 20, .int (nI (lr_n g 35))]) (μ1 := μ) (vc := True) rfl (by decide +kernel) rfl trivial ?_
  refine pm_icmp_lt (off := 13) 30 (by decide +kernel) (by decide) (fun (h17 : (nI (lr_n g 35)) < 20) => ?_) (fun (h9 : ¬ ((nI (lr_n g 35)) < 20)) => absurd (nI_lt (b := 20) hn (by decide)) h9)
  refine pm_bl [(.aload_n 0, 1, 0, 0, 0), (.getfield 19, 3, 9, 1, 0), (.aload_n 0, 1, 0, 0, 0), (.getfield 10, 3, 9, 0, 0)] (pc1 := 38) (lo1 := [some (.ref 0), some (.int (nI h))]) (st1 := [.ref 1, .ref 45]) (μ1 := μ) (vc := True) rfl (by decide +kernel) rfl trivial ?_
  refine pm_callV2 mi_X2_keep (ix := 78) (b := 45) (ci := 2) (kc2 := 1) (ks2 := 6) (As := [.ref 1]) (rest := []) (c_X2_keep (c := c) (n := n) μ hR hG.B hH.2.1 hH.2.2.2.1 hH.2.2.1 hH.1) cal_X2_keep lk9_78 (by decide +kernel) rfl (by decide +kernel) rfl rfl rfl rfl (Nat.le_of_ble_eq_true rfl) (by decide) (by decide) (fun _ _ h9 => h9.elim) ?_
  rintro _ μ1 ⟨rfl, h2k, hfk, hRk, hck, hnk⟩
  obtain ⟨hFC, hR1, hH1⟩ := lr_keep_ok hR hH h2k hfk hRk hck hnk
  show pm_V _ _ _ _ 41 _ [] _
  refine pm_bl [(.aload_n 0, 1, 0, 0, 0), (.getfield 10, 3, 9, 0, 0), (.getfield 90, 3, 5, 1, 0), (.iload_n 1, 1, 1, 0, 0)] (pc1 := 49) (lo1 := [some (.ref 0), some (.int (nI h))]) (st1 := [.int (nI h), .ref 5]) (μ1 := μ1) (vc := True) rfl (by decide +kernel) rfl trivial ?_
  refine pm_callV2 mi_X6_add (ix := 99) (b := 5) (ci := 6) (kc2 := 1) (ks2 := 6) (As := [.int (nI h)]) (rest := []) (c_X6_add (nI h) μ1 hR1 hG hn) cal_X6_add lk9_99 (by decide +kernel) rfl (by decide +kernel) rfl rfl rfl rfl (Nat.le_of_ble_eq_true rfl) (by decide) (by decide) (fun _ _ h9 => h9.elim) ?_
  rintro _ μ3 ⟨rfl, hf3, hR3⟩
  show pm_V _ _ _ _ 52 _ [.int (nI (lr_n g 35))] _
  exact pm_iret (ty := .int) rfl rfl (by decide) (by decide) (by decide +kernel) (⟨rfl, hFC.tr hf3, hR3, hH1.fr (fun i hi => hf3.1 i (by omega))⟩)
set_option maxHeartbeats 4000000 in
set_option maxRecDepth 100000 in
theorem c_X9_addWalk_no1 {g : Nat → Int32} {x1 x2 x3 x4 x5 : Int32} (μ : pm_Mm) (hR : lr_Rel μ.1 1 g) (hG : lr_G g) (hw : lr_wok x1 x2 x3 x4 x5 = false) : pm_CT mi_X9_addWalk [.ref 0, .int x1, .int x2, .int x3, .int x4, .int x5] μ (fun _ _ => False) (fun E μ2 => E = "java/lang/IllegalArgumentException" ∧ μ2 = μ) := by
  refine pm_CT_of (lo := [some (.ref 0), some (.int x1), some (.int x2), some (.int x3), some (.int x4), some (.int x5), none]) (by decide +kernel) rfl rfl (by intro v hv; simp at hv; rcases hv with rfl | rfl | rfl | rfl | rfl | rfl <;> rfl) (Nat.le_of_ble_eq_true rfl) rfl ?_
  have hm1 := lr_mh hG; have hm2 := lr_mw hG; have hm3 := lr_mp hG; have hm4 := lr_mr hG; have hm5 := lr_ma hG; have hm6 := lr_ml hG
  refine pm_bl [(.iload_n 1, 1, 1, 0, 0)] (pc1 := 1) (lo1 := [some (.ref 0), some (.int x1), some (.int x2), some (.int x3), some (.int x4), some (.int x5), none]) (st1 := [.int x1]) (μ1 := μ) (vc := True) rfl (by decide +kernel) rfl trivial ?_
  refine pm_callS2 mi_X9_isStreet (ix := 44) (kc2 := 0) (ks2 := 0) (As := [.int x1]) (rest := []) (c_X9_isStreet x1 μ) cal_X9_isStreet lk9_44 (by decide +kernel) rfl (by decide +kernel) rfl rfl (Nat.le_of_ble_eq_true rfl) (by decide) (by decide) (fun _ _ h9 => h9.elim) ?_
  rintro _ _ ⟨rfl, h9⟩; rw [h9]; clear h9
  show pm_V _ _ _ _ 4 _ [.int (lr_b (lr_be x1 5))] _
  refine pm_ifb_eq (off := 12) 16 (by decide +kernel) (by decide) (fun (h4 : (lr_be x1 5) = false) => ?_) (fun (h4 : (lr_be x1 5) = true) => ?_)
  · exact pm_throw (is := 106) (tx := "the street or the side is out of range") pm_exIA rfl (by decide +kernel) rfl (by decide +kernel) (by decide +kernel) (by decide +kernel) (by decide +kernel) (by decide +kernel) (by decide) (by decide) (⟨rfl, rfl⟩)
  · refine pm_bl [(.iload_n 2, 1, 2, 0, 0), (.iconst 0, 1, 0, 0, 0), (.iconst 2, 1, 0, 0, 2)] (pc1 := 10) (lo1 := [some (.ref 0), some (.int x1), some (.int x2), some (.int x3), some (.int x4), some (.int x5), none]) (st1 := [.int 2, .int 0, .int x2]) (μ1 := μ) (vc := True) rfl (by decide +kernel) rfl trivial ?_
    refine pm_callS2 mi_X9_isBetween (ix := 102) (kc2 := 0) (ks2 := 0) (As := [.int x2, .int 0, .int 2]) (rest := []) (c_X9_isBetween x2 0 2 μ) cal_X9_isBetween lk9_102 (by decide +kernel) rfl (by decide +kernel) rfl rfl (Nat.le_of_ble_eq_true rfl) (by decide) (by decide) (fun _ _ h9 => h9.elim) ?_
    rintro _ _ ⟨rfl, h9⟩; rw [h9]; clear h9
    show pm_V _ _ _ _ 13 _ [.int (lr_b (lr_in x2 0 2))] _
    refine pm_ifb_ne (off := 13) 26 (by decide +kernel) (by decide) (fun (h13 : (lr_in x2 0 2) = true) => ?_) (fun (h13 : (lr_in x2 0 2) = false) => ?_)
    · refine pm_bl [(.iload_n 3, 1, 3, 0, 0), (.iconst 0, 1, 0, 0, 0), (.iconst 1, 1, 0, 0, 1)] (pc1 := 29) (lo1 := [some (.ref 0), some (.int x1), some (.int x2), some (.int x3), some (.int x4), some (.int x5), none]) (st1 := [.int 1, .int 0, .int x3]) (μ1 := μ) (vc := True) rfl (by decide +kernel) rfl trivial ?_
      refine pm_callS2 mi_X9_isBetween (ix := 102) (kc2 := 0) (ks2 := 0) (As := [.int x3, .int 0, .int 1]) (rest := []) (c_X9_isBetween x3 0 1 μ) cal_X9_isBetween lk9_102 (by decide +kernel) rfl (by decide +kernel) rfl rfl (Nat.le_of_ble_eq_true rfl) (by decide) (by decide) (fun _ _ h9 => h9.elim) ?_
      rintro _ _ ⟨rfl, h9⟩; rw [h9]; clear h9
      show pm_V _ _ _ _ 32 _ [.int (lr_b (lr_in x3 0 1))] _
      refine pm_ifb_ne (off := 13) 45 (by decide +kernel) (by decide) (fun (h32 : (lr_in x3 0 1) = true) => ?_) (fun (h32 : (lr_in x3 0 1) = false) => ?_)
      · refine pm_bl [(.iload 4, 2, 4, 0, 0)] (pc1 := 47) (lo1 := [some (.ref 0), some (.int x1), some (.int x2), some (.int x3), some (.int x4), some (.int x5), none]) (st1 := [.int x4]) (μ1 := μ) (vc := True) rfl (by decide +kernel) rfl trivial ?_
        refine pm_callS2 mi_X9_isHouseNumber (ix := 48) (kc2 := 0) (ks2 := 0) (As := [.int x4]) (rest := []) (c_X9_isHouseNumber x4 μ) cal_X9_isHouseNumber lk9_48 (by decide +kernel) rfl (by decide +kernel) rfl rfl (Nat.le_of_ble_eq_true rfl) (by decide) (by decide) (fun _ _ h9 => h9.elim) ?_
        rintro _ _ ⟨rfl, h9⟩; rw [h9]; clear h9
        show pm_V _ _ _ _ 50 _ [.int (lr_b (lr_in x4 1 99))] _
        refine pm_ifb_eq (off := 18) 68 (by decide +kernel) (by decide) (fun (h50 : (lr_in x4 1 99) = false) => ?_) (fun (h50 : (lr_in x4 1 99) = true) => ?_)
        · exact pm_throw (is := 110) (tx := "the house numbers are out of range or out of order") pm_exIA rfl (by decide +kernel) rfl (by decide +kernel) (by decide +kernel) (by decide +kernel) (by decide +kernel) (by decide +kernel) (by decide) (by decide) (⟨rfl, rfl⟩)
        · refine pm_bl [(.iload 5, 2, 5, 0, 0)] (pc1 := 55) (lo1 := [some (.ref 0), some (.int x1), some (.int x2), some (.int x3), some (.int x4), some (.int x5), none]) (st1 := [.int x5]) (μ1 := μ) (vc := True) rfl (by decide +kernel) rfl trivial ?_
          refine pm_callS2 mi_X9_isHouseNumber (ix := 48) (kc2 := 0) (ks2 := 0) (As := [.int x5]) (rest := []) (c_X9_isHouseNumber x5 μ) cal_X9_isHouseNumber lk9_48 (by decide +kernel) rfl (by decide +kernel) rfl rfl (Nat.le_of_ble_eq_true rfl) (by decide) (by decide) (fun _ _ h9 => h9.elim) ?_
          rintro _ _ ⟨rfl, h9⟩; rw [h9]; clear h9
          show pm_V _ _ _ _ 58 _ [.int (lr_b (lr_in x5 1 99))] _
          refine pm_ifb_eq (off := 10) 68 (by decide +kernel) (by decide) (fun (h58 : (lr_in x5 1 99) = false) => ?_) (fun (h58 : (lr_in x5 1 99) = true) => ?_)
          · exact pm_throw (is := 110) (tx := "the house numbers are out of range or out of order") pm_exIA rfl (by decide +kernel) rfl (by decide +kernel) (by decide +kernel) (by decide +kernel) (by decide +kernel) (by decide +kernel) (by decide) (by decide) (⟨rfl, rfl⟩)
          · refine pm_bl [(.iload 4, 2, 4, 0, 0), (.iload 5, 2, 5, 0, 0)] (pc1 := 65) (lo1 := [some (.ref 0), some (.int x1), some (.int x2), some (.int x3), some (.int x4), some (.int x5), none]) (st1 := [.int x5, .int x4]) (μ1 := μ) (vc := True) rfl (by decide +kernel) rfl trivial ?_
            refine pm_icmp_le (off := 13) 78 (by decide +kernel) (by decide) (fun (h9 : x4 ≤ x5) => absurd hw (by rw [lr_wok_f (by rw [← lr_be5]; exact h4) h13 h32 h50 h58 h9]; decide)) (fun (h65 : ¬ (x4 ≤ x5)) => ?_)
            exact pm_throw (is := 110) (tx := "the house numbers are out of range or out of order") pm_exIA rfl (by decide +kernel) rfl (by decide +kernel) (by decide +kernel) (by decide +kernel) (by decide +kernel) (by decide +kernel) (by decide) (by decide) (⟨rfl, rfl⟩)
      · exact pm_throw (is := 108) (tx := "the direction is out of range") pm_exIA rfl (by decide +kernel) rfl (by decide +kernel) (by decide +kernel) (by decide +kernel) (by decide +kernel) (by decide +kernel) (by decide) (by decide) (⟨rfl, rfl⟩)
    · exact pm_throw (is := 106) (tx := "the street or the side is out of range") pm_exIA rfl (by decide +kernel) rfl (by decide +kernel) (by decide +kernel) (by decide +kernel) (by decide +kernel) (by decide +kernel) (by decide) (by decide) (⟨rfl, rfl⟩)
set_option maxHeartbeats 4000000 in
set_option maxRecDepth 100000 in
theorem c_X9_addWalk_no2 {g : Nat → Int32} {x1 x2 x3 x4 x5 : Int32} (μ : pm_Mm) (hR : lr_Rel μ.1 1 g) (hG : lr_G g) (hw : lr_wok x1 x2 x3 x4 x5 = true) (hn : lr_n g 116 = 10) : pm_CT mi_X9_addWalk [.ref 0, .int x1, .int x2, .int x3, .int x4, .int x5] μ (fun _ _ => False) (fun E μ2 => E = "java/lang/IllegalStateException" ∧ μ2 = μ) := by
  refine pm_CT_of (lo := [some (.ref 0), some (.int x1), some (.int x2), some (.int x3), some (.int x4), some (.int x5), none]) (by decide +kernel) rfl rfl (by intro v hv; simp at hv; rcases hv with rfl | rfl | rfl | rfl | rfl | rfl <;> rfl) (Nat.le_of_ble_eq_true rfl) rfl ?_
  have hm1 := lr_mh hG; have hm2 := lr_mw hG; have hm3 := lr_mp hG; have hm4 := lr_mr hG; have hm5 := lr_ma hG; have hm6 := lr_ml hG
  have hw' := lr_wok_t hw
  refine pm_bl [(.iload_n 1, 1, 1, 0, 0)] (pc1 := 1) (lo1 := [some (.ref 0), some (.int x1), some (.int x2), some (.int x3), some (.int x4), some (.int x5), none]) (st1 := [.int x1]) (μ1 := μ) (vc := True) rfl (by decide +kernel) rfl trivial ?_
  refine pm_callS2 mi_X9_isStreet (ix := 44) (kc2 := 0) (ks2 := 0) (As := [.int x1]) (rest := []) (c_X9_isStreet x1 μ) cal_X9_isStreet lk9_44 (by decide +kernel) rfl (by decide +kernel) rfl rfl (Nat.le_of_ble_eq_true rfl) (by decide) (by decide) (fun _ _ h9 => h9.elim) ?_
  rintro _ _ ⟨rfl, h9⟩; rw [h9]; clear h9
  show pm_V _ _ _ _ 4 _ [.int (lr_b (lr_be x1 5))] _
  refine pm_ifb_eq (off := 12) 16 (by decide +kernel) (by decide) (fun (h9 : (lr_be x1 5) = false) => absurd (h9.symm.trans ((lr_be5 x1).trans hw'.1)) (by decide)) (fun (h4 : (lr_be x1 5) = true) => ?_)
  refine pm_bl [(.iload_n 2, 1, 2, 0, 0), (.iconst 0, 1, 0, 0, 0), (.iconst 2, 1, 0, 0, 2)] (pc1 := 10) (lo1 := [some (.ref 0), some (.int x1), some (.int x2), some (.int x3), some (.int x4), some (.int x5), none]) (st1 := [.int 2, .int 0, .int x2]) (μ1 := μ) (vc := True) rfl (by decide +kernel) rfl trivial ?_
  refine pm_callS2 mi_X9_isBetween (ix := 102) (kc2 := 0) (ks2 := 0) (As := [.int x2, .int 0, .int 2]) (rest := []) (c_X9_isBetween x2 0 2 μ) cal_X9_isBetween lk9_102 (by decide +kernel) rfl (by decide +kernel) rfl rfl (Nat.le_of_ble_eq_true rfl) (by decide) (by decide) (fun _ _ h9 => h9.elim) ?_
  rintro _ _ ⟨rfl, h9⟩; rw [h9]; clear h9
  show pm_V _ _ _ _ 13 _ [.int (lr_b (lr_in x2 0 2))] _
  refine pm_ifb_ne (off := 13) 26 (by decide +kernel) (by decide) (fun (h13 : (lr_in x2 0 2) = true) => ?_) (fun (h9 : (lr_in x2 0 2) = false) => absurd (h9.symm.trans hw'.2.1) (by decide))
  refine pm_bl [(.iload_n 3, 1, 3, 0, 0), (.iconst 0, 1, 0, 0, 0), (.iconst 1, 1, 0, 0, 1)] (pc1 := 29) (lo1 := [some (.ref 0), some (.int x1), some (.int x2), some (.int x3), some (.int x4), some (.int x5), none]) (st1 := [.int 1, .int 0, .int x3]) (μ1 := μ) (vc := True) rfl (by decide +kernel) rfl trivial ?_
  refine pm_callS2 mi_X9_isBetween (ix := 102) (kc2 := 0) (ks2 := 0) (As := [.int x3, .int 0, .int 1]) (rest := []) (c_X9_isBetween x3 0 1 μ) cal_X9_isBetween lk9_102 (by decide +kernel) rfl (by decide +kernel) rfl rfl (Nat.le_of_ble_eq_true rfl) (by decide) (by decide) (fun _ _ h9 => h9.elim) ?_
  rintro _ _ ⟨rfl, h9⟩; rw [h9]; clear h9
  show pm_V _ _ _ _ 32 _ [.int (lr_b (lr_in x3 0 1))] _
  refine pm_ifb_ne (off := 13) 45 (by decide +kernel) (by decide) (fun (h32 : (lr_in x3 0 1) = true) => ?_) (fun (h9 : (lr_in x3 0 1) = false) => absurd (h9.symm.trans hw'.2.2.1) (by decide))
  refine pm_bl [(.iload 4, 2, 4, 0, 0)] (pc1 := 47) (lo1 := [some (.ref 0), some (.int x1), some (.int x2), some (.int x3), some (.int x4), some (.int x5), none]) (st1 := [.int x4]) (μ1 := μ) (vc := True) rfl (by decide +kernel) rfl trivial ?_
  refine pm_callS2 mi_X9_isHouseNumber (ix := 48) (kc2 := 0) (ks2 := 0) (As := [.int x4]) (rest := []) (c_X9_isHouseNumber x4 μ) cal_X9_isHouseNumber lk9_48 (by decide +kernel) rfl (by decide +kernel) rfl rfl (Nat.le_of_ble_eq_true rfl) (by decide) (by decide) (fun _ _ h9 => h9.elim) ?_
  rintro _ _ ⟨rfl, h9⟩; rw [h9]; clear h9
  show pm_V _ _ _ _ 50 _ [.int (lr_b (lr_in x4 1 99))] _
  refine pm_ifb_eq (off := 18) 68 (by decide +kernel) (by decide) (fun (h9 : (lr_in x4 1 99) = false) => absurd (h9.symm.trans hw'.2.2.2.1) (by decide)) (fun (h50 : (lr_in x4 1 99) = true) => ?_)
  refine pm_bl [(.iload 5, 2, 5, 0, 0)] (pc1 := 55) (lo1 := [some (.ref 0), some (.int x1), some (.int x2), some (.int x3), some (.int x4), some (.int x5), none]) (st1 := [.int x5]) (μ1 := μ) (vc := True) rfl (by decide +kernel) rfl trivial ?_
  refine pm_callS2 mi_X9_isHouseNumber (ix := 48) (kc2 := 0) (ks2 := 0) (As := [.int x5]) (rest := []) (c_X9_isHouseNumber x5 μ) cal_X9_isHouseNumber lk9_48 (by decide +kernel) rfl (by decide +kernel) rfl rfl (Nat.le_of_ble_eq_true rfl) (by decide) (by decide) (fun _ _ h9 => h9.elim) ?_
  rintro _ _ ⟨rfl, h9⟩; rw [h9]; clear h9
  show pm_V _ _ _ _ 58 _ [.int (lr_b (lr_in x5 1 99))] _
  refine pm_ifb_eq (off := 10) 68 (by decide +kernel) (by decide) (fun (h9 : (lr_in x5 1 99) = false) => absurd (h9.symm.trans hw'.2.2.2.2.1) (by decide)) (fun (h58 : (lr_in x5 1 99) = true) => ?_)
  refine pm_bl [(.iload 4, 2, 4, 0, 0), (.iload 5, 2, 5, 0, 0)] (pc1 := 65) (lo1 := [some (.ref 0), some (.int x1), some (.int x2), some (.int x3), some (.int x4), some (.int x5), none]) (st1 := [.int x5, .int x4]) (μ1 := μ) (vc := True) rfl (by decide +kernel) rfl trivial ?_
  refine pm_icmp_le (off := 13) 78 (by decide +kernel) (by decide) (fun (h65 : x4 ≤ x5) => ?_) (fun (h9 : ¬ (x4 ≤ x5)) => absurd hw'.2.2.2.2.2 h9)
  refine pm_bl [(.aload_n 0, 1, 0, 0, 0), (.getfield 10, 3, 9, 0, 0), (.getfield 112, 3, 5, 2, 0), (.getfield 116, 3, 8, 0, 0)] (pc1 := 88) (lo1 := [some (.ref 0), some (.int x1), some (.int x2), some (.int x3), some (.int x4), some (.int x5), none]) (st1 := [.int (μ.1 10 0)]) (μ1 := μ) (vc := True) rfl (by decide +kernel) rfl trivial ?_
  rw [lr_rNw hR, lr_gw hG]
  refine pm_bl [(.bipush 10, 2, 0, 0, 10)] (pc1 := 90) (lo1 := [some (.ref 0), some (.int x1), some (.int x2), some (.int x3), some (.int x4), some (.int x5), none]) (st1 := [.int 10, .int (nI (lr_n g 116))]) (μ1 := μ) (vc := True) rfl (by decide +kernel) rfl trivial ?_
  refine pm_icmp_lt (off := 13) 103 (by decide +kernel) (by decide) (fun (h9 : (nI (lr_n g 116)) < 10) => absurd h9 (by rw [hn]; decide)) (fun (h90 : ¬ ((nI (lr_n g 116)) < 10)) => ?_)
  exact pm_throw (is := 119) (tx := "10 walks were made") pm_exIS rfl (by decide +kernel) rfl (by decide +kernel) (by decide +kernel) (by decide +kernel) (by decide +kernel) (by decide +kernel) (by decide) (by decide) (⟨rfl, rfl⟩)
set_option maxHeartbeats 4000000 in
set_option maxRecDepth 100000 in
theorem c_X9_addWalk {g : Nat → Int32} {c n : Nat} {F : Nat → Nat → Int32} {x1 x2 x3 x4 x5 : Int32} (μ : pm_Mm) (hR : lr_Rel μ.1 1 g) (hG : lr_G g) (hw : lr_wok x1 x2 x3 x4 x5 = true) (hn : lr_n g 116 < 10) (hG2 : lr_G (lr_gX8_add g x1 x2 x3 x4 x5)) (hH : lr_Hs μ.1 c n F) : pm_CT mi_X9_addWalk [.ref 0, .int x1, .int x2, .int x3, .int x4, .int x5] μ (fun v μ2 => v = some (.int (lr_svd (lr_gX8_add g x1 x2 x3 x4 x5) (nI (lr_n g 116)))) ∧ lr_fc μ μ2 ∧ lr_Rel μ2.1 1 (lr_gX8_add g x1 x2 x3 x4 x5) ∧ lr_Hs μ2.1 (min (c + 1) 8) ((n + 1) % 8) (lr_psh c F g)) pm_NX := by
  refine pm_CT_of (lo := [some (.ref 0), some (.int x1), some (.int x2), some (.int x3), some (.int x4), some (.int x5), none]) (by decide +kernel) rfl rfl (by intro v hv; simp at hv; rcases hv with rfl | rfl | rfl | rfl | rfl | rfl <;> rfl) (Nat.le_of_ble_eq_true rfl) rfl ?_
  have hm1 := lr_mh hG; have hm2 := lr_mw hG; have hm3 := lr_mp hG; have hm4 := lr_mr hG; have hm5 := lr_ma hG; have hm6 := lr_ml hG
  have hw' := lr_wok_t hw
  refine pm_bl [(.iload_n 1, 1, 1, 0, 0)] (pc1 := 1) (lo1 := [some (.ref 0), some (.int x1), some (.int x2), some (.int x3), some (.int x4), some (.int x5), none]) (st1 := [.int x1]) (μ1 := μ) (vc := True) rfl (by decide +kernel) rfl trivial ?_
  refine pm_callS2 mi_X9_isStreet (ix := 44) (kc2 := 0) (ks2 := 0) (As := [.int x1]) (rest := []) (c_X9_isStreet x1 μ) cal_X9_isStreet lk9_44 (by decide +kernel) rfl (by decide +kernel) rfl rfl (Nat.le_of_ble_eq_true rfl) (by decide) (by decide) (fun _ _ h9 => h9.elim) ?_
  rintro _ _ ⟨rfl, h9⟩; rw [h9]; clear h9
  show pm_V _ _ _ _ 4 _ [.int (lr_b (lr_be x1 5))] _
  refine pm_ifb_eq (off := 12) 16 (by decide +kernel) (by decide) (fun (h9 : (lr_be x1 5) = false) => absurd (h9.symm.trans ((lr_be5 x1).trans hw'.1)) (by decide)) (fun (h4 : (lr_be x1 5) = true) => ?_)
  refine pm_bl [(.iload_n 2, 1, 2, 0, 0), (.iconst 0, 1, 0, 0, 0), (.iconst 2, 1, 0, 0, 2)] (pc1 := 10) (lo1 := [some (.ref 0), some (.int x1), some (.int x2), some (.int x3), some (.int x4), some (.int x5), none]) (st1 := [.int 2, .int 0, .int x2]) (μ1 := μ) (vc := True) rfl (by decide +kernel) rfl trivial ?_
  refine pm_callS2 mi_X9_isBetween (ix := 102) (kc2 := 0) (ks2 := 0) (As := [.int x2, .int 0, .int 2]) (rest := []) (c_X9_isBetween x2 0 2 μ) cal_X9_isBetween lk9_102 (by decide +kernel) rfl (by decide +kernel) rfl rfl (Nat.le_of_ble_eq_true rfl) (by decide) (by decide) (fun _ _ h9 => h9.elim) ?_
  rintro _ _ ⟨rfl, h9⟩; rw [h9]; clear h9
  show pm_V _ _ _ _ 13 _ [.int (lr_b (lr_in x2 0 2))] _
  refine pm_ifb_ne (off := 13) 26 (by decide +kernel) (by decide) (fun (h13 : (lr_in x2 0 2) = true) => ?_) (fun (h9 : (lr_in x2 0 2) = false) => absurd (h9.symm.trans hw'.2.1) (by decide))
  refine pm_bl [(.iload_n 3, 1, 3, 0, 0), (.iconst 0, 1, 0, 0, 0), (.iconst 1, 1, 0, 0, 1)] (pc1 := 29) (lo1 := [some (.ref 0), some (.int x1), some (.int x2), some (.int x3), some (.int x4), some (.int x5), none]) (st1 := [.int 1, .int 0, .int x3]) (μ1 := μ) (vc := True) rfl (by decide +kernel) rfl trivial ?_
  refine pm_callS2 mi_X9_isBetween (ix := 102) (kc2 := 0) (ks2 := 0) (As := [.int x3, .int 0, .int 1]) (rest := []) (c_X9_isBetween x3 0 1 μ) cal_X9_isBetween lk9_102 (by decide +kernel) rfl (by decide +kernel) rfl rfl (Nat.le_of_ble_eq_true rfl) (by decide) (by decide) (fun _ _ h9 => h9.elim) ?_
  rintro _ _ ⟨rfl, h9⟩; rw [h9]; clear h9
  show pm_V _ _ _ _ 32 _ [.int (lr_b (lr_in x3 0 1))] _
  refine pm_ifb_ne (off := 13) 45 (by decide +kernel) (by decide) (fun (h32 : (lr_in x3 0 1) = true) => ?_) (fun (h9 : (lr_in x3 0 1) = false) => absurd (h9.symm.trans hw'.2.2.1) (by decide))
  refine pm_bl [(.iload 4, 2, 4, 0, 0)] (pc1 := 47) (lo1 := [some (.ref 0), some (.int x1), some (.int x2), some (.int x3), some (.int x4), some (.int x5), none]) (st1 := [.int x4]) (μ1 := μ) (vc := True) rfl (by decide +kernel) rfl trivial ?_
  refine pm_callS2 mi_X9_isHouseNumber (ix := 48) (kc2 := 0) (ks2 := 0) (As := [.int x4]) (rest := []) (c_X9_isHouseNumber x4 μ) cal_X9_isHouseNumber lk9_48 (by decide +kernel) rfl (by decide +kernel) rfl rfl (Nat.le_of_ble_eq_true rfl) (by decide) (by decide) (fun _ _ h9 => h9.elim) ?_
  rintro _ _ ⟨rfl, h9⟩; rw [h9]; clear h9
  show pm_V _ _ _ _ 50 _ [.int (lr_b (lr_in x4 1 99))] _
  refine pm_ifb_eq (off := 18) 68 (by decide +kernel) (by decide) (fun (h9 : (lr_in x4 1 99) = false) => absurd (h9.symm.trans hw'.2.2.2.1) (by decide)) (fun (h50 : (lr_in x4 1 99) = true) => ?_)
  refine pm_bl [(.iload 5, 2, 5, 0, 0)] (pc1 := 55) (lo1 := [some (.ref 0), some (.int x1), some (.int x2), some (.int x3), some (.int x4), some (.int x5), none]) (st1 := [.int x5]) (μ1 := μ) (vc := True) rfl (by decide +kernel) rfl trivial ?_
  refine pm_callS2 mi_X9_isHouseNumber (ix := 48) (kc2 := 0) (ks2 := 0) (As := [.int x5]) (rest := []) (c_X9_isHouseNumber x5 μ) cal_X9_isHouseNumber lk9_48 (by decide +kernel) rfl (by decide +kernel) rfl rfl (Nat.le_of_ble_eq_true rfl) (by decide) (by decide) (fun _ _ h9 => h9.elim) ?_
  rintro _ _ ⟨rfl, h9⟩; rw [h9]; clear h9
  show pm_V _ _ _ _ 58 _ [.int (lr_b (lr_in x5 1 99))] _
  refine pm_ifb_eq (off := 10) 68 (by decide +kernel) (by decide) (fun (h9 : (lr_in x5 1 99) = false) => absurd (h9.symm.trans hw'.2.2.2.2.1) (by decide)) (fun (h58 : (lr_in x5 1 99) = true) => ?_)
  refine pm_bl [(.iload 4, 2, 4, 0, 0), (.iload 5, 2, 5, 0, 0)] (pc1 := 65) (lo1 := [some (.ref 0), some (.int x1), some (.int x2), some (.int x3), some (.int x4), some (.int x5), none]) (st1 := [.int x5, .int x4]) (μ1 := μ) (vc := True) rfl (by decide +kernel) rfl trivial ?_
  refine pm_icmp_le (off := 13) 78 (by decide +kernel) (by decide) (fun (h65 : x4 ≤ x5) => ?_) (fun (h9 : ¬ (x4 ≤ x5)) => absurd hw'.2.2.2.2.2 h9)
  refine pm_bl [(.aload_n 0, 1, 0, 0, 0), (.getfield 10, 3, 9, 0, 0), (.getfield 112, 3, 5, 2, 0), (.getfield 116, 3, 8, 0, 0)] (pc1 := 88) (lo1 := [some (.ref 0), some (.int x1), some (.int x2), some (.int x3), some (.int x4), some (.int x5), none]) (st1 := [.int (μ.1 10 0)]) (μ1 := μ) (vc := True) rfl (by decide +kernel) rfl trivial ?_
  rw [lr_rNw hR, lr_gw hG]
  refine pm_bl [(.bipush 10, 2, 0, 0, 10)] (pc1 := 90) (lo1 := [some (.ref 0), some (.int x1), some (.int x2), some (.int x3), some (.int x4), some (.int x5), none]) (st1 := [.int 10, .int (nI (lr_n g 116))]) (μ1 := μ) (vc := True) rfl (by decide +kernel) rfl trivial ?_
  refine pm_icmp_lt (off := 13) 103 (by decide +kernel) (by decide) (fun (h90 : (nI (lr_n g 116)) < 10) => ?_) (fun (h9 : ¬ ((nI (lr_n g 116)) < 10)) => absurd (nI_lt (b := 10) hn (by decide)) h9)
  refine pm_bl [(.aload_n 0, 1, 0, 0, 0), (.getfield 19, 3, 9, 1, 0), (.aload_n 0, 1, 0, 0, 0), (.getfield 10, 3, 9, 0, 0)] (pc1 := 111) (lo1 := [some (.ref 0), some (.int x1), some (.int x2), some (.int x3), some (.int x4), some (.int x5), none]) (st1 := [.ref 1, .ref 45]) (μ1 := μ) (vc := True) rfl (by decide +kernel) rfl trivial ?_
  refine pm_callV2 mi_X2_keep (ix := 78) (b := 45) (ci := 2) (kc2 := 0) (ks2 := 0) (As := [.ref 1]) (rest := []) (c_X2_keep (c := c) (n := n) μ hR hG.B hH.2.1 hH.2.2.2.1 hH.2.2.1 hH.1) cal_X2_keep lk9_78 (by decide +kernel) rfl (by decide +kernel) rfl rfl rfl rfl (Nat.le_of_ble_eq_true rfl) (by decide) (by decide) (fun _ _ h9 => h9.elim) ?_
  rintro _ μ1 ⟨rfl, h2k, hfk, hRk, hck, hnk⟩
  obtain ⟨hFC, hR1, hH1⟩ := lr_keep_ok hR hH h2k hfk hRk hck hnk
  show pm_V _ _ _ _ 114 _ [] _
  refine pm_bl [(.aload_n 0, 1, 0, 0, 0), (.getfield 10, 3, 9, 0, 0), (.getfield 112, 3, 5, 2, 0), (.iload_n 1, 1, 1, 0, 0), (.iload_n 2, 1, 2, 0, 0), (.iload_n 3, 1, 3, 0, 0), (.iload 4, 2, 4, 0, 0), (.iload 5, 2, 5, 0, 0)] (pc1 := 128) (lo1 := [some (.ref 0), some (.int x1), some (.int x2), some (.int x3), some (.int x4), some (.int x5), none]) (st1 := [.int x5, .int x4, .int x3, .int x2, .int x1, .ref 10]) (μ1 := μ1) (vc := True) rfl (by decide +kernel) rfl trivial ?_
  refine pm_callV2 mi_X8_add (ix := 121) (b := 10) (ci := 8) (kc2 := 0) (ks2 := 0) (As := [.int x1, .int x2, .int x3, .int x4, .int x5]) (rest := []) (c_X8_add x1 x2 x3 x4 x5 μ1 hR1 hG hn) cal_X8_add lk9_121 (by decide +kernel) rfl (by decide +kernel) rfl rfl rfl rfl (Nat.le_of_ble_eq_true rfl) (by decide) (by decide) (fun _ _ h9 => h9.elim) ?_
  rintro _ μ3 ⟨rfl, hf3, hR3⟩
  show pm_V _ _ _ _ 131 _ [.int (nI (lr_n g 116))] _
  refine pm_bl [(.istore 6, 2, 6, 0, 0), (.aload_n 0, 1, 0, 0, 0), (.getfield 10, 3, 9, 0, 0), (.iload 6, 2, 6, 0, 0)] (pc1 := 139) (lo1 := [some (.ref 0), some (.int x1), some (.int x2), some (.int x3), some (.int x4), some (.int x5), some (.int (nI (lr_n g 116)))]) (st1 := [.int (nI (lr_n g 116)), .ref 1]) (μ1 := μ3) (vc := True) rfl (by decide +kernel) rfl trivial ?_
  refine pm_callV2 mi_X5_countServedBy (ix := 124) (b := 1) (ci := 5) (kc2 := 0) (ks2 := 0) (As := [.int (nI (lr_n g 116))]) (rest := []) (c_X5_countServedBy (nI (lr_n g 116)) μ3 hR3 hG2) cal_X5_countServedBy lk9_124 (by decide +kernel) rfl (by decide +kernel) rfl rfl rfl rfl (Nat.le_of_ble_eq_true rfl) (by decide) (by decide) (fun _ _ h9 => h9.elim) ?_
  rintro _ _ ⟨rfl, h9⟩; rw [h9]; clear h9
  show pm_V _ _ _ _ 142 _ [.int (lr_svd (lr_gX8_add g x1 x2 x3 x4 x5) (nI (lr_n g 116)))] _
  exact pm_iret (ty := .int) rfl rfl (by decide) (by decide) (by decide +kernel) (⟨rfl, hFC.tr hf3, hR3, hH1.fr (fun i hi => hf3.1 i (by omega))⟩)
set_option maxHeartbeats 4000000 in
set_option maxRecDepth 100000 in
theorem c_X9_walkOf_no {g : Nat → Int32} {x : Int32} (μ : pm_Mm) (hR : lr_Rel μ.1 1 g) (hG : lr_G g) (hb : lr_be x (nI (lr_n g 2)) = false) : pm_CT mi_X9_walkOf [.ref 0, .int x] μ (fun _ _ => False) (fun E μ2 => E = "java/lang/IndexOutOfBoundsException" ∧ μ2 = μ) := by
  refine pm_CT_of (lo := [some (.ref 0), some (.int x)]) (by decide +kernel) rfl rfl (by intro v hv; simp at hv; rcases hv with rfl | rfl <;> rfl) (Nat.le_of_ble_eq_true rfl) rfl ?_
  have hm1 := lr_mh hG; have hm2 := lr_mw hG; have hm3 := lr_mp hG; have hm4 := lr_mr hG; have hm5 := lr_ma hG; have hm6 := lr_ml hG
  refine pm_bl [(.aload_n 0, 1, 0, 0, 0), (.iload_n 1, 1, 1, 0, 0)] (pc1 := 2) (lo1 := [some (.ref 0), some (.int x)]) (st1 := [.int x, .ref 0]) (μ1 := μ) (vc := True) rfl (by decide +kernel) rfl trivial ?_
  refine pm_callV2 mi_X9_requireHouse (ix := 86) (b := 0) (ci := 9) (kc2 := 1) (ks2 := 6) (As := [.int x]) (rest := []) (c_X9_requireHouse_no x μ hR hG hb) cal_X9_requireHouse lk9_86 (by decide +kernel) rfl (by decide +kernel) rfl rfl rfl rfl (Nat.le_of_ble_eq_true rfl) (by decide) (by decide) (fun E μ9 h9 => h9) ?_
  rintro _ _ h9; exact h9.elim
set_option maxHeartbeats 4000000 in
set_option maxRecDepth 100000 in
theorem c_X9_walkOf {g : Nat → Int32} {h : Nat} (μ : pm_Mm) (hR : lr_Rel μ.1 1 g) (hG : lr_G g) (hh : h < lr_n g 2) : pm_CT mi_X9_walkOf [.ref 0, .int (nI h)] μ (fun v μ2 => v = some (.int (lr_sv g h)) ∧ μ2 = μ) pm_NX := by
  refine pm_CT_of (lo := [some (.ref 0), some (.int (nI h))]) (by decide +kernel) rfl rfl (by intro v hv; simp at hv; rcases hv with rfl | rfl <;> rfl) (Nat.le_of_ble_eq_true rfl) rfl ?_
  have hm1 := lr_mh hG; have hm2 := lr_mw hG; have hm3 := lr_mp hG; have hm4 := lr_mr hG; have hm5 := lr_ma hG; have hm6 := lr_ml hG
  refine pm_bl [(.aload_n 0, 1, 0, 0, 0), (.iload_n 1, 1, 1, 0, 0)] (pc1 := 2) (lo1 := [some (.ref 0), some (.int (nI h))]) (st1 := [.int (nI h), .ref 0]) (μ1 := μ) (vc := True) rfl (by decide +kernel) rfl trivial ?_
  refine pm_callV2 mi_X9_requireHouse (ix := 86) (b := 0) (ci := 9) (kc2 := 1) (ks2 := 6) (As := [.int (nI h)]) (rest := []) (c_X9_requireHouse (nI h) μ (by first | exact hR | exact hR1) hG (lr_be_1 hh (by omega))) cal_X9_requireHouse lk9_86 (by decide +kernel) rfl (by decide +kernel) rfl rfl rfl rfl (Nat.le_of_ble_eq_true rfl) (by decide) (by decide) (fun _ _ h9 => h9.elim) ?_
  rintro _ _ ⟨rfl, h9⟩; rw [h9]; clear h9
  show pm_V _ _ _ _ 5 _ [] _
  refine pm_bl [(.aload_n 0, 1, 0, 0, 0), (.getfield 10, 3, 9, 0, 0), (.iload_n 1, 1, 1, 0, 0)] (pc1 := 10) (lo1 := [some (.ref 0), some (.int (nI h))]) (st1 := [.int (nI h), .ref 1]) (μ1 := μ) (vc := True) rfl (by decide +kernel) rfl trivial ?_
  refine pm_callV2 mi_X5_walkServing (ix := 127) (b := 1) (ci := 5) (kc2 := 1) (ks2 := 6) (As := [.int (nI h)]) (rest := []) (c_X5_walkServing (h := h) μ hR hG hh) cal_X5_walkServing lk9_127 (by decide +kernel) rfl (by decide +kernel) rfl rfl rfl rfl (Nat.le_of_ble_eq_true rfl) (by decide) (by decide) (fun _ _ h9 => h9.elim) ?_
  rintro _ _ ⟨rfl, h9⟩; rw [h9]; clear h9
  show pm_V _ _ _ _ 13 _ [.int (lr_sv g h)] _
  exact pm_iret (ty := .int) rfl rfl (by decide) (by decide) (by decide +kernel) (⟨rfl, rfl⟩)
set_option maxHeartbeats 4000000 in
set_option maxRecDepth 100000 in
theorem c_X9_stop_no1 {g : Nat → Int32} {x : Int32} (y : Int32) (μ : pm_Mm) (hR : lr_Rel μ.1 1 g) (hG : lr_G g) (hb : lr_be x (nI (lr_n g 116)) = false) : pm_CT mi_X9_stop [.ref 0, .int x, .int y] μ (fun _ _ => False) (fun E μ2 => E = "java/lang/IndexOutOfBoundsException" ∧ μ2 = μ) := by
  refine pm_CT_of (lo := [some (.ref 0), some (.int x), some (.int y), none]) (by decide +kernel) rfl rfl (by intro v hv; simp at hv; rcases hv with rfl | rfl | rfl <;> rfl) (Nat.le_of_ble_eq_true rfl) rfl ?_
  have hm1 := lr_mh hG; have hm2 := lr_mw hG; have hm3 := lr_mp hG; have hm4 := lr_mr hG; have hm5 := lr_ma hG; have hm6 := lr_ml hG
  refine pm_bl [(.iload_n 1, 1, 1, 0, 0), (.aload_n 0, 1, 0, 0, 0), (.getfield 10, 3, 9, 0, 0), (.getfield 112, 3, 5, 2, 0), (.getfield 116, 3, 8, 0, 0)] (pc1 := 11) (lo1 := [some (.ref 0), some (.int x), some (.int y), none]) (st1 := [.int (μ.1 10 0), .int x]) (μ1 := μ) (vc := True) rfl (by decide +kernel) rfl trivial ?_
  rw [lr_rNw hR, lr_gw hG]
  refine pm_callS2 mi_X9_isBelow (ix := 130) (kc2 := 0) (ks2 := 0) (As := [.int x, .int (nI (lr_n g 116))]) (rest := []) (c_X9_isBelow x (nI (lr_n g 116)) μ) cal_X9_isBelow lk9_130 (by decide +kernel) rfl (by decide +kernel) rfl rfl (Nat.le_of_ble_eq_true rfl) (by decide) (by decide) (fun _ _ h9 => h9.elim) ?_
  rintro _ _ ⟨rfl, h9⟩; rw [h9]; clear h9
  show pm_V _ _ _ _ 14 _ [.int (lr_b (lr_be x (nI (lr_n g 116))))] _
  refine pm_ifb_ne (off := 13) 27 (by decide +kernel) (by decide) (fun (h9 : (lr_be x (nI (lr_n g 116))) = true) => absurd (hb.symm.trans h9) (by decide)) (fun (h14 : (lr_be x (nI (lr_n g 116))) = false) => ?_)
  exact pm_throw (is := 135) (tx := "there is no such walk") pm_exIO rfl (by decide +kernel) rfl (by decide +kernel) (by decide +kernel) (by decide +kernel) (by decide +kernel) (by decide +kernel) (by decide) (by decide) (⟨rfl, rfl⟩)
set_option maxHeartbeats 4000000 in
set_option maxRecDepth 100000 in
theorem c_X9_stop_no2 {g : Nat → Int32} {x y : Int32} (μ : pm_Mm) (hR : lr_Rel μ.1 1 g) (hG : lr_G g) (hb : lr_be x (nI (lr_n g 116)) = true) (hs : lr_hso g x y = -1) : pm_CT mi_X9_stop [.ref 0, .int x, .int y] μ (fun _ _ => False) (fun E μ2 => E = "java/util/NoSuchElementException" ∧ μ2 = μ) := by
  refine pm_CT_of (lo := [some (.ref 0), some (.int x), some (.int y), none]) (by decide +kernel) rfl rfl (by intro v hv; simp at hv; rcases hv with rfl | rfl | rfl <;> rfl) (Nat.le_of_ble_eq_true rfl) rfl ?_
  have hm1 := lr_mh hG; have hm2 := lr_mw hG; have hm3 := lr_mp hG; have hm4 := lr_mr hG; have hm5 := lr_ma hG; have hm6 := lr_ml hG
  refine pm_bl [(.iload_n 1, 1, 1, 0, 0), (.aload_n 0, 1, 0, 0, 0), (.getfield 10, 3, 9, 0, 0), (.getfield 112, 3, 5, 2, 0), (.getfield 116, 3, 8, 0, 0)] (pc1 := 11) (lo1 := [some (.ref 0), some (.int x), some (.int y), none]) (st1 := [.int (μ.1 10 0), .int x]) (μ1 := μ) (vc := True) rfl (by decide +kernel) rfl trivial ?_
  rw [lr_rNw hR, lr_gw hG]
  refine pm_callS2 mi_X9_isBelow (ix := 130) (kc2 := 0) (ks2 := 0) (As := [.int x, .int (nI (lr_n g 116))]) (rest := []) (c_X9_isBelow x (nI (lr_n g 116)) μ) cal_X9_isBelow lk9_130 (by decide +kernel) rfl (by decide +kernel) rfl rfl (Nat.le_of_ble_eq_true rfl) (by decide) (by decide) (fun _ _ h9 => h9.elim) ?_
  rintro _ _ ⟨rfl, h9⟩; rw [h9]; clear h9
  show pm_V _ _ _ _ 14 _ [.int (lr_b (lr_be x (nI (lr_n g 116))))] _
  refine pm_ifb_ne (off := 13) 27 (by decide +kernel) (by decide) (fun (h14 : (lr_be x (nI (lr_n g 116))) = true) => ?_) (fun (h9 : (lr_be x (nI (lr_n g 116))) = false) => absurd (hb.symm.trans h9) (by decide))
  refine pm_bl [(.aload_n 0, 1, 0, 0, 0), (.getfield 10, 3, 9, 0, 0), (.iload_n 1, 1, 1, 0, 0), (.iload_n 2, 1, 2, 0, 0)] (pc1 := 33) (lo1 := [some (.ref 0), some (.int x), some (.int y), none]) (st1 := [.int y, .int x, .ref 1]) (μ1 := μ) (vc := True) rfl (by decide +kernel) rfl trivial ?_
  refine pm_callV2 mi_X5_houseAtStop (ix := 138) (b := 1) (ci := 5) (kc2 := 0) (ks2 := 0) (As := [.int x, .int y]) (rest := []) (c_X5_houseAtStop x y μ hR hG) cal_X5_houseAtStop lk9_138 (by decide +kernel) rfl (by decide +kernel) rfl rfl rfl rfl (Nat.le_of_ble_eq_true rfl) (by decide) (by decide) (fun _ _ h9 => h9.elim) ?_
  rintro _ _ ⟨rfl, h9⟩; rw [h9]; clear h9
  show pm_V _ _ _ _ 36 _ [.int (lr_hso g x y)] _
  refine pm_bl [(.istore_n 3, 1, 3, 0, 0), (.iload_n 3, 1, 3, 0, 0), (.iconst (-1), 1, 0, 0, (-1))] (pc1 := 39) (lo1 := [some (.ref 0), some (.int x), some (.int y), some (.int (lr_hso g x y))]) (st1 := [.int (-1), .int (lr_hso g x y)]) (μ1 := μ) (vc := True) rfl (by decide +kernel) rfl trivial ?_
  refine pm_icmp_ne (off := 13) 52 (by decide +kernel) (by decide) (fun (h9 : ¬ (lr_hso g x y) = (-1)) => absurd hs h9) (fun (h39 : (lr_hso g x y) = (-1)) => ?_)
  exact pm_throwX (is := 143) (tx := "there is no such stop") pm_exNS rfl (by decide +kernel) rfl (by decide +kernel) (by decide +kernel) (by decide +kernel) (by decide +kernel) (by decide +kernel) (by decide) (by decide) (⟨rfl, rfl⟩)
set_option maxHeartbeats 4000000 in
set_option maxRecDepth 100000 in
theorem c_X9_stop {g : Nat → Int32} {x y : Int32} (μ : pm_Mm) (hR : lr_Rel μ.1 1 g) (hG : lr_G g) (hb : lr_be x (nI (lr_n g 116)) = true) (hs : ¬ lr_hso g x y = -1) : pm_CT mi_X9_stop [.ref 0, .int x, .int y] μ (fun v μ2 => v = some (.int (lr_hso g x y)) ∧ μ2 = μ) pm_NX := by
  refine pm_CT_of (lo := [some (.ref 0), some (.int x), some (.int y), none]) (by decide +kernel) rfl rfl (by intro v hv; simp at hv; rcases hv with rfl | rfl | rfl <;> rfl) (Nat.le_of_ble_eq_true rfl) rfl ?_
  have hm1 := lr_mh hG; have hm2 := lr_mw hG; have hm3 := lr_mp hG; have hm4 := lr_mr hG; have hm5 := lr_ma hG; have hm6 := lr_ml hG
  refine pm_bl [(.iload_n 1, 1, 1, 0, 0), (.aload_n 0, 1, 0, 0, 0), (.getfield 10, 3, 9, 0, 0), (.getfield 112, 3, 5, 2, 0), (.getfield 116, 3, 8, 0, 0)] (pc1 := 11) (lo1 := [some (.ref 0), some (.int x), some (.int y), none]) (st1 := [.int (μ.1 10 0), .int x]) (μ1 := μ) (vc := True) rfl (by decide +kernel) rfl trivial ?_
  rw [lr_rNw hR, lr_gw hG]
  refine pm_callS2 mi_X9_isBelow (ix := 130) (kc2 := 0) (ks2 := 0) (As := [.int x, .int (nI (lr_n g 116))]) (rest := []) (c_X9_isBelow x (nI (lr_n g 116)) μ) cal_X9_isBelow lk9_130 (by decide +kernel) rfl (by decide +kernel) rfl rfl (Nat.le_of_ble_eq_true rfl) (by decide) (by decide) (fun _ _ h9 => h9.elim) ?_
  rintro _ _ ⟨rfl, h9⟩; rw [h9]; clear h9
  show pm_V _ _ _ _ 14 _ [.int (lr_b (lr_be x (nI (lr_n g 116))))] _
  refine pm_ifb_ne (off := 13) 27 (by decide +kernel) (by decide) (fun (h14 : (lr_be x (nI (lr_n g 116))) = true) => ?_) (fun (h9 : (lr_be x (nI (lr_n g 116))) = false) => absurd (hb.symm.trans h9) (by decide))
  refine pm_bl [(.aload_n 0, 1, 0, 0, 0), (.getfield 10, 3, 9, 0, 0), (.iload_n 1, 1, 1, 0, 0), (.iload_n 2, 1, 2, 0, 0)] (pc1 := 33) (lo1 := [some (.ref 0), some (.int x), some (.int y), none]) (st1 := [.int y, .int x, .ref 1]) (μ1 := μ) (vc := True) rfl (by decide +kernel) rfl trivial ?_
  refine pm_callV2 mi_X5_houseAtStop (ix := 138) (b := 1) (ci := 5) (kc2 := 0) (ks2 := 0) (As := [.int x, .int y]) (rest := []) (c_X5_houseAtStop x y μ hR hG) cal_X5_houseAtStop lk9_138 (by decide +kernel) rfl (by decide +kernel) rfl rfl rfl rfl (Nat.le_of_ble_eq_true rfl) (by decide) (by decide) (fun _ _ h9 => h9.elim) ?_
  rintro _ _ ⟨rfl, h9⟩; rw [h9]; clear h9
  show pm_V _ _ _ _ 36 _ [.int (lr_hso g x y)] _
  refine pm_bl [(.istore_n 3, 1, 3, 0, 0), (.iload_n 3, 1, 3, 0, 0), (.iconst (-1), 1, 0, 0, (-1))] (pc1 := 39) (lo1 := [some (.ref 0), some (.int x), some (.int y), some (.int (lr_hso g x y))]) (st1 := [.int (-1), .int (lr_hso g x y)]) (μ1 := μ) (vc := True) rfl (by decide +kernel) rfl trivial ?_
  refine pm_icmp_ne (off := 13) 52 (by decide +kernel) (by decide) (fun (h39 : ¬ (lr_hso g x y) = (-1)) => ?_) (fun (h9 : (lr_hso g x y) = (-1)) => absurd h9 hs)
  refine pm_bl [(.iload_n 3, 1, 3, 0, 0)] (pc1 := 53) (lo1 := [some (.ref 0), some (.int x), some (.int y), some (.int (lr_hso g x y))]) (st1 := [.int (lr_hso g x y)]) (μ1 := μ) (vc := True) rfl (by decide +kernel) rfl trivial ?_
  exact pm_iret (ty := .int) rfl rfl (by decide) (by decide) (by decide +kernel) (⟨rfl, rfl⟩)
set_option maxHeartbeats 4000000 in
set_option maxRecDepth 100000 in
theorem c_X9_stopIndex_no1 {g : Nat → Int32} {x : Int32} (μ : pm_Mm) (hR : lr_Rel μ.1 1 g) (hG : lr_G g) (hb : lr_be x (nI (lr_n g 2)) = false) : pm_CT mi_X9_stopIndex [.ref 0, .int x] μ (fun _ _ => False) (fun E μ2 => E = "java/lang/IndexOutOfBoundsException" ∧ μ2 = μ) := by
  refine pm_CT_of (lo := [some (.ref 0), some (.int x)]) (by decide +kernel) rfl rfl (by intro v hv; simp at hv; rcases hv with rfl | rfl <;> rfl) (Nat.le_of_ble_eq_true rfl) rfl ?_
  have hm1 := lr_mh hG; have hm2 := lr_mw hG; have hm3 := lr_mp hG; have hm4 := lr_mr hG; have hm5 := lr_ma hG; have hm6 := lr_ml hG
  refine pm_bl [(.aload_n 0, 1, 0, 0, 0), (.iload_n 1, 1, 1, 0, 0)] (pc1 := 2) (lo1 := [some (.ref 0), some (.int x)]) (st1 := [.int x, .ref 0]) (μ1 := μ) (vc := True) rfl (by decide +kernel) rfl trivial ?_
  refine pm_callV2 mi_X9_requireHouse (ix := 86) (b := 0) (ci := 9) (kc2 := 1) (ks2 := 6) (As := [.int x]) (rest := []) (c_X9_requireHouse_no x μ hR hG hb) cal_X9_requireHouse lk9_86 (by decide +kernel) rfl (by decide +kernel) rfl rfl rfl rfl (Nat.le_of_ble_eq_true rfl) (by decide) (by decide) (fun E μ9 h9 => h9) ?_
  rintro _ _ h9; exact h9.elim
set_option maxHeartbeats 4000000 in
set_option maxRecDepth 100000 in
theorem c_X9_stopIndex_no2 {g : Nat → Int32} {h : Nat} (μ : pm_Mm) (hR : lr_Rel μ.1 1 g) (hG : lr_G g) (hh : h < lr_n g 2) (hs : lr_sv g h = -1) : pm_CT mi_X9_stopIndex [.ref 0, .int (nI h)] μ (fun _ _ => False) (fun E μ2 => E = "java/util/NoSuchElementException" ∧ μ2 = μ) := by
  refine pm_CT_of (lo := [some (.ref 0), some (.int (nI h))]) (by decide +kernel) rfl rfl (by intro v hv; simp at hv; rcases hv with rfl | rfl <;> rfl) (Nat.le_of_ble_eq_true rfl) rfl ?_
  have hm1 := lr_mh hG; have hm2 := lr_mw hG; have hm3 := lr_mp hG; have hm4 := lr_mr hG; have hm5 := lr_ma hG; have hm6 := lr_ml hG
  refine pm_bl [(.aload_n 0, 1, 0, 0, 0), (.iload_n 1, 1, 1, 0, 0)] (pc1 := 2) (lo1 := [some (.ref 0), some (.int (nI h))]) (st1 := [.int (nI h), .ref 0]) (μ1 := μ) (vc := True) rfl (by decide +kernel) rfl trivial ?_
  refine pm_callV2 mi_X9_requireHouse (ix := 86) (b := 0) (ci := 9) (kc2 := 1) (ks2 := 6) (As := [.int (nI h)]) (rest := []) (c_X9_requireHouse (nI h) μ (by first | exact hR | exact hR1) hG (lr_be_1 hh (by omega))) cal_X9_requireHouse lk9_86 (by decide +kernel) rfl (by decide +kernel) rfl rfl rfl rfl (Nat.le_of_ble_eq_true rfl) (by decide) (by decide) (fun _ _ h9 => h9.elim) ?_
  rintro _ _ ⟨rfl, h9⟩; rw [h9]; clear h9
  show pm_V _ _ _ _ 5 _ [] _
  refine pm_bl [(.aload_n 0, 1, 0, 0, 0), (.getfield 10, 3, 9, 0, 0), (.iload_n 1, 1, 1, 0, 0)] (pc1 := 10) (lo1 := [some (.ref 0), some (.int (nI h))]) (st1 := [.int (nI h), .ref 1]) (μ1 := μ) (vc := True) rfl (by decide +kernel) rfl trivial ?_
  refine pm_callV2 mi_X5_walkServing (ix := 127) (b := 1) (ci := 5) (kc2 := 1) (ks2 := 6) (As := [.int (nI h)]) (rest := []) (c_X5_walkServing (h := h) μ hR hG hh) cal_X5_walkServing lk9_127 (by decide +kernel) rfl (by decide +kernel) rfl rfl rfl rfl (Nat.le_of_ble_eq_true rfl) (by decide) (by decide) (fun _ _ h9 => h9.elim) ?_
  rintro _ _ ⟨rfl, h9⟩; rw [h9]; clear h9
  show pm_V _ _ _ _ 13 _ [.int (lr_sv g h)] _
  refine pm_bl [(.iconst (-1), 1, 0, 0, (-1))] (pc1 := 14) (lo1 := [some (.ref 0), some (.int (nI h))]) (st1 := [.int (-1), .int (lr_sv g h)]) (μ1 := μ) (vc := True) rfl (by decide +kernel) rfl trivial ?_
  refine pm_icmp_ne (off := 13) 27 (by decide +kernel) (by decide) (fun (h9 : ¬ (lr_sv g h) = (-1)) => absurd hs h9) (fun (h14 : (lr_sv g h) = (-1)) => ?_)
  exact pm_throwX (is := 146) (tx := "no walk serves the house") pm_exNS rfl (by decide +kernel) rfl (by decide +kernel) (by decide +kernel) (by decide +kernel) (by decide +kernel) (by decide +kernel) (by decide) (by decide) (⟨rfl, rfl⟩)
set_option maxHeartbeats 4000000 in
set_option maxRecDepth 100000 in
theorem c_X9_stopIndex {g : Nat → Int32} {h : Nat} (μ : pm_Mm) (hR : lr_Rel μ.1 1 g) (hG : lr_G g) (hh : h < lr_n g 2) (hs : ¬ lr_sv g h = -1) : pm_CT mi_X9_stopIndex [.ref 0, .int (nI h)] μ (fun v μ2 => v = some (.int (lr_spo g h)) ∧ μ2 = μ) pm_NX := by
  refine pm_CT_of (lo := [some (.ref 0), some (.int (nI h))]) (by decide +kernel) rfl rfl (by intro v hv; simp at hv; rcases hv with rfl | rfl <;> rfl) (Nat.le_of_ble_eq_true rfl) rfl ?_
  have hm1 := lr_mh hG; have hm2 := lr_mw hG; have hm3 := lr_mp hG; have hm4 := lr_mr hG; have hm5 := lr_ma hG; have hm6 := lr_ml hG
  refine pm_bl [(.aload_n 0, 1, 0, 0, 0), (.iload_n 1, 1, 1, 0, 0)] (pc1 := 2) (lo1 := [some (.ref 0), some (.int (nI h))]) (st1 := [.int (nI h), .ref 0]) (μ1 := μ) (vc := True) rfl (by decide +kernel) rfl trivial ?_
  refine pm_callV2 mi_X9_requireHouse (ix := 86) (b := 0) (ci := 9) (kc2 := 1) (ks2 := 6) (As := [.int (nI h)]) (rest := []) (c_X9_requireHouse (nI h) μ (by first | exact hR | exact hR1) hG (lr_be_1 hh (by omega))) cal_X9_requireHouse lk9_86 (by decide +kernel) rfl (by decide +kernel) rfl rfl rfl rfl (Nat.le_of_ble_eq_true rfl) (by decide) (by decide) (fun _ _ h9 => h9.elim) ?_
  rintro _ _ ⟨rfl, h9⟩; rw [h9]; clear h9
  show pm_V _ _ _ _ 5 _ [] _
  refine pm_bl [(.aload_n 0, 1, 0, 0, 0), (.getfield 10, 3, 9, 0, 0), (.iload_n 1, 1, 1, 0, 0)] (pc1 := 10) (lo1 := [some (.ref 0), some (.int (nI h))]) (st1 := [.int (nI h), .ref 1]) (μ1 := μ) (vc := True) rfl (by decide +kernel) rfl trivial ?_
  refine pm_callV2 mi_X5_walkServing (ix := 127) (b := 1) (ci := 5) (kc2 := 1) (ks2 := 6) (As := [.int (nI h)]) (rest := []) (c_X5_walkServing (h := h) μ hR hG hh) cal_X5_walkServing lk9_127 (by decide +kernel) rfl (by decide +kernel) rfl rfl rfl rfl (Nat.le_of_ble_eq_true rfl) (by decide) (by decide) (fun _ _ h9 => h9.elim) ?_
  rintro _ _ ⟨rfl, h9⟩; rw [h9]; clear h9
  show pm_V _ _ _ _ 13 _ [.int (lr_sv g h)] _
  refine pm_bl [(.iconst (-1), 1, 0, 0, (-1))] (pc1 := 14) (lo1 := [some (.ref 0), some (.int (nI h))]) (st1 := [.int (-1), .int (lr_sv g h)]) (μ1 := μ) (vc := True) rfl (by decide +kernel) rfl trivial ?_
  refine pm_icmp_ne (off := 13) 27 (by decide +kernel) (by decide) (fun (h14 : ¬ (lr_sv g h) = (-1)) => ?_) (fun (h9 : (lr_sv g h) = (-1)) => absurd h9 hs)
  refine pm_bl [(.aload_n 0, 1, 0, 0, 0), (.getfield 10, 3, 9, 0, 0), (.iload_n 1, 1, 1, 0, 0)] (pc1 := 32) (lo1 := [some (.ref 0), some (.int (nI h))]) (st1 := [.int (nI h), .ref 1]) (μ1 := μ) (vc := True) rfl (by decide +kernel) rfl trivial ?_
  refine pm_callV2 mi_X5_stopPosition (ix := 148) (b := 1) (ci := 5) (kc2 := 1) (ks2 := 6) (As := [.int (nI h)]) (rest := []) (c_X5_stopPosition (h := h) μ hR hG hh) cal_X5_stopPosition lk9_148 (by decide +kernel) rfl (by decide +kernel) rfl rfl rfl rfl (Nat.le_of_ble_eq_true rfl) (by decide) (by decide) (fun _ _ h9 => h9.elim) ?_
  rintro _ _ ⟨rfl, h9⟩; rw [h9]; clear h9
  show pm_V _ _ _ _ 35 _ [.int (lr_spo g h)] _
  exact pm_iret (ty := .int) rfl rfl (by decide) (by decide) (by decide +kernel) (⟨rfl, rfl⟩)
