/-! the class: deliveries, days left -/
set_option maxHeartbeats 4000000 in
set_option maxRecDepth 100000 in
theorem c_X9_delivered_no {g : Nat → Int32} {x : Int32} (μ : pm_Mm) (hR : lr_Rel μ.1 1 g) (hG : lr_G g) (hb : lr_be x (nI (lr_n g 1)) = false) : pm_CT mi_X9_delivered [.ref 0, .int x] μ (fun _ _ => False) (fun E μ2 => E = "java/util/NoSuchElementException" ∧ μ2 = μ) := by
  refine pm_CT_of (lo := [some (.ref 0), some (.int x)]) (by decide +kernel) rfl rfl (by intro v hv; simp at hv; rcases hv with rfl | rfl <;> rfl) (Nat.le_of_ble_eq_true rfl) rfl ?_
  have hm1 := lr_mh hG; have hm2 := lr_mw hG; have hm3 := lr_mp hG; have hm4 := lr_mr hG; have hm5 := lr_ma hG; have hm6 := lr_ml hG
  refine pm_bl [(.iload_n 1, 1, 1, 0, 0), (.aload_n 0, 1, 0, 0, 0), (.getfield 10, 3, 9, 0, 0), (.getfield 235, 3, 5, 5, 0), (.getfield 304, 3, 4, 1, 0)] (pc1 := 11) (lo1 := [some (.ref 0), some (.int x)]) (st1 := [.int (μ.1 26 1), .int x]) (μ1 := μ) (vc := True) rfl (by decide +kernel) rfl trivial ?_
  rw [lr_rD hR, lr_gD hG]
  refine pm_callS2 mi_X9_isBelow (ix := 130) (kc2 := 0) (ks2 := 0) (As := [.int x, .int (nI (lr_n g 1))]) (rest := []) (c_X9_isBelow x (nI (lr_n g 1)) μ) cal_X9_isBelow lk9_130 (by decide +kernel) rfl (by decide +kernel) rfl rfl (Nat.le_of_ble_eq_true rfl) (by decide) (by decide) (fun _ _ h9 => h9.elim) ?_
  rintro _ _ ⟨rfl, h9⟩; rw [h9]; clear h9
  show pm_V _ _ _ _ 14 _ [.int (lr_b (lr_be x (nI (lr_n g 1))))] _
  refine pm_ifb_ne (off := 14) 28 (by decide +kernel) (by decide) (fun (h9 : (lr_be x (nI (lr_n g 1))) = true) => absurd (hb.symm.trans h9) (by decide)) (fun (h14 : (lr_be x (nI (lr_n g 1))) = false) => ?_)
  exact pm_throwXW (is := 307) (tx := "there is no such delivery") pm_exNS rfl (by decide +kernel) rfl (by decide +kernel) (by decide +kernel) (by decide +kernel) (by decide +kernel) (by decide +kernel) (by decide) (by decide) (⟨rfl, rfl⟩)
set_option maxHeartbeats 4000000 in
set_option maxRecDepth 100000 in
theorem c_X9_delivered {g : Nat → Int32} {d i : Nat} (μ : pm_Mm) (hR : lr_Rel μ.1 1 g) (hG : lr_G g) (hdn : d < lr_n g 1) (hi : i < lr_n g 289) (hd : g (300 + 11 * i) = nI d) : pm_CT mi_X9_delivered [.ref 0, .int (nI d)] μ (fun v μ2 => v = some (.int (nI i)) ∧ μ2 = μ) pm_NX := by
  refine pm_CT_of (lo := [some (.ref 0), some (.int (nI d))]) (by decide +kernel) rfl rfl (by intro v hv; simp at hv; rcases hv with rfl | rfl <;> rfl) (Nat.le_of_ble_eq_true rfl) rfl ?_
  have hm1 := lr_mh hG; have hm2 := lr_mw hG; have hm3 := lr_mp hG; have hm4 := lr_mr hG; have hm5 := lr_ma hG; have hm6 := lr_ml hG
  have mD := lr_mD hG
  refine pm_bl [(.iload_n 1, 1, 1, 0, 0), (.aload_n 0, 1, 0, 0, 0), (.getfield 10, 3, 9, 0, 0), (.getfield 235, 3, 5, 5, 0), (.getfield 304, 3, 4, 1, 0)] (pc1 := 11) (lo1 := [some (.ref 0), some (.int (nI d))]) (st1 := [.int (μ.1 26 1), .int (nI d)]) (μ1 := μ) (vc := True) rfl (by decide +kernel) rfl trivial ?_
  rw [lr_rD hR, lr_gD hG]
  refine pm_callS2 mi_X9_isBelow (ix := 130) (kc2 := 0) (ks2 := 0) (As := [.int (nI d), .int (nI (lr_n g 1))]) (rest := []) (c_X9_isBelow (nI d) (nI (lr_n g 1)) μ) cal_X9_isBelow lk9_130 (by decide +kernel) rfl (by decide +kernel) rfl rfl (Nat.le_of_ble_eq_true rfl) (by decide) (by decide) (fun _ _ h9 => h9.elim) ?_
  rintro _ _ ⟨rfl, h9⟩; rw [h9]; clear h9
  show pm_V _ _ _ _ 14 _ [.int (lr_b (lr_be (nI d) (nI (lr_n g 1))))] _
  refine pm_ifb_ne (off := 14) 28 (by decide +kernel) (by decide) (fun (h14 : (lr_be (nI d) (nI (lr_n g 1))) = true) => ?_) (fun (h9 : (lr_be (nI d) (nI (lr_n g 1))) = false) => absurd (h9.symm.trans (lr_be_1 hdn (by omega))) (by decide))
  refine pm_bl [(.aload_n 0, 1, 0, 0, 0), (.getfield 10, 3, 9, 0, 0), (.getfield 235, 3, 5, 5, 0), (.getfield 309, 3, 4, 13, 0), (.iload_n 1, 1, 1, 0, 0), (.iaload, 1, 0, 0, 0)] (pc1 := 40) (lo1 := [some (.ref 0), some (.int (nI d))]) (st1 := [.int (μ.1 38 (nI d).toNatClampNeg)]) (μ1 := μ) (vc := vp_in (nI d) 30 ∧ True) rfl (by decide +kernel) rfl ⟨(vp_in_nI (by omega) (by omega)), trivial⟩ ?_
  first | rw [nI_clamp (n := d) (by omega), lr_rda hR hi hd (by omega)] | rw [lr_rda hR hi hd (by omega)]
  exact pm_iret (ty := .int) rfl rfl (by decide) (by decide) (by decide +kernel) (⟨rfl, rfl⟩)
set_option maxHeartbeats 4000000 in
set_option maxRecDepth 100000 in
theorem c_X9_daysLeft_no1 {g : Nat → Int32} {x : Int32} (μ : pm_Mm) (hR : lr_Rel μ.1 1 g) (hG : lr_G g) (hb : lr_be x (nI (lr_n g 289)) = false) : pm_CT mi_X9_daysLeft [.ref 0, .int x] μ (fun _ _ => False) (fun E μ2 => E = "java/lang/IndexOutOfBoundsException" ∧ μ2 = μ) := by
  refine pm_CT_of (lo := [some (.ref 0), some (.int x), none]) (by decide +kernel) rfl rfl (by intro v hv; simp at hv; rcases hv with rfl | rfl <;> rfl) (Nat.le_of_ble_eq_true rfl) rfl ?_
  have hm1 := lr_mh hG; have hm2 := lr_mw hG; have hm3 := lr_mp hG; have hm4 := lr_mr hG; have hm5 := lr_ma hG; have hm6 := lr_ml hG
  refine pm_bl [(.aload_n 0, 1, 0, 0, 0), (.iload_n 1, 1, 1, 0, 0)] (pc1 := 2) (lo1 := [some (.ref 0), some (.int x), none]) (st1 := [.int x, .ref 0]) (μ1 := μ) (vc := True) rfl (by decide +kernel) rfl trivial ?_
  refine pm_callV2 mi_X9_requireLetter (ix := 282) (b := 0) (ci := 9) (kc2 := 1) (ks2 := 6) (As := [.int x]) (rest := []) (c_X9_requireLetter_no x μ hR hG hb) cal_X9_requireLetter lk9_282 (by decide +kernel) rfl (by decide +kernel) rfl rfl rfl rfl (Nat.le_of_ble_eq_true rfl) (by decide) (by decide) (fun E μ9 h9 => h9) ?_
  rintro _ _ h9; exact h9.elim
set_option maxHeartbeats 4000000 in
set_option maxRecDepth 100000 in
theorem c_X9_daysLeft_no2 {g : Nat → Int32} {h : Nat} (μ : pm_Mm) (hR : lr_Rel μ.1 1 g) (hG : lr_G g) (hh : h < lr_n g 289) (hw : ¬ g (294 + 11 * h) = 0) : pm_CT mi_X9_daysLeft [.ref 0, .int (nI h)] μ (fun _ _ => False) (fun E μ2 => E = "java/lang/IllegalStateException" ∧ μ2 = μ) := by
  refine pm_CT_of (lo := [some (.ref 0), some (.int (nI h)), none]) (by decide +kernel) rfl rfl (by intro v hv; simp at hv; rcases hv with rfl | rfl <;> rfl) (Nat.le_of_ble_eq_true rfl) rfl ?_
  have hm1 := lr_mh hG; have hm2 := lr_mw hG; have hm3 := lr_mp hG; have hm4 := lr_mr hG; have hm5 := lr_ma hG; have hm6 := lr_ml hG
  refine pm_bl [(.aload_n 0, 1, 0, 0, 0), (.iload_n 1, 1, 1, 0, 0)] (pc1 := 2) (lo1 := [some (.ref 0), some (.int (nI h)), none]) (st1 := [.int (nI h), .ref 0]) (μ1 := μ) (vc := True) rfl (by decide +kernel) rfl trivial ?_
  refine pm_callV2 mi_X9_requireLetter (ix := 282) (b := 0) (ci := 9) (kc2 := 1) (ks2 := 6) (As := [.int (nI h)]) (rest := []) (c_X9_requireLetter (nI h) μ (by first | exact hR | exact hR1) hG (lr_be_1 hh (by omega))) cal_X9_requireLetter lk9_282 (by decide +kernel) rfl (by decide +kernel) rfl rfl rfl rfl (Nat.le_of_ble_eq_true rfl) (by decide) (by decide) (fun _ _ h9 => h9.elim) ?_
  rintro _ _ ⟨rfl, h9⟩; rw [h9]; clear h9
  show pm_V _ _ _ _ 5 _ [] _
  refine pm_bl [(.aload_n 0, 1, 0, 0, 0), (.getfield 10, 3, 9, 0, 0), (.getfield 235, 3, 5, 5, 0), (.getfield 312, 3, 4, 6, 0), (.iload_n 1, 1, 1, 0, 0), (.iaload, 1, 0, 0, 0)] (pc1 := 17) (lo1 := [some (.ref 0), some (.int (nI h)), none]) (st1 := [.int (μ.1 31 (nI h).toNatClampNeg)]) (μ1 := μ) (vc := vp_in (nI h) 30 ∧ True) rfl (by decide +kernel) rfl ⟨(vp_in_nI (by omega) (by omega)), trivial⟩ ?_
  first | rw [nI_clamp (n := h) (by omega), lr_rlst hR (i := h) hh] | rw [lr_rlst hR (i := h) hh]
  refine pm_if_eq (off := 14) 31 (by decide +kernel) (by decide) (fun (h9 : (g (294 + 11 * h)) = 0) => absurd h9 hw) (fun (h17 : ¬ ((g (294 + 11 * h)) = 0)) => ?_)
  exact pm_throwW (is := 315) (tx := "the letter does not wait") pm_exIS rfl (by decide +kernel) rfl (by decide +kernel) (by decide +kernel) (by decide +kernel) (by decide +kernel) (by decide +kernel) (by decide) (by decide) (⟨rfl, rfl⟩)
set_option maxHeartbeats 4000000 in
set_option maxRecDepth 100000 in
theorem c_X9_daysLeft_no3 {g : Nat → Int32} {h t : Nat} (μ : pm_Mm) (hR : lr_Rel μ.1 1 g) (hG : lr_G g) (hh : h < lr_n g 289) (hw : g (294 + 11 * h) = 0) (ht : g (297 + 11 * h) = nI t) (ht2 : t ≤ 2) (hs : lr_fcs g h (365 - lr_n g 0) 0 t = -1) : pm_CT mi_X9_daysLeft [.ref 0, .int (nI h)] μ (fun _ _ => False) (fun E μ2 => E = "java/util/NoSuchElementException" ∧ μ2 = μ) := by
  refine pm_CT_of (lo := [some (.ref 0), some (.int (nI h)), none]) (by decide +kernel) rfl rfl (by intro v hv; simp at hv; rcases hv with rfl | rfl <;> rfl) (Nat.le_of_ble_eq_true rfl) rfl ?_
  have hm1 := lr_mh hG; have hm2 := lr_mw hG; have hm3 := lr_mp hG; have hm4 := lr_mr hG; have hm5 := lr_ma hG; have hm6 := lr_ml hG
  refine pm_bl [(.aload_n 0, 1, 0, 0, 0), (.iload_n 1, 1, 1, 0, 0)] (pc1 := 2) (lo1 := [some (.ref 0), some (.int (nI h)), none]) (st1 := [.int (nI h), .ref 0]) (μ1 := μ) (vc := True) rfl (by decide +kernel) rfl trivial ?_
  refine pm_callV2 mi_X9_requireLetter (ix := 282) (b := 0) (ci := 9) (kc2 := 1) (ks2 := 6) (As := [.int (nI h)]) (rest := []) (c_X9_requireLetter (nI h) μ (by first | exact hR | exact hR1) hG (lr_be_1 hh (by omega))) cal_X9_requireLetter lk9_282 (by decide +kernel) rfl (by decide +kernel) rfl rfl rfl rfl (Nat.le_of_ble_eq_true rfl) (by decide) (by decide) (fun _ _ h9 => h9.elim) ?_
  rintro _ _ ⟨rfl, h9⟩; rw [h9]; clear h9
  show pm_V _ _ _ _ 5 _ [] _
  refine pm_bl [(.aload_n 0, 1, 0, 0, 0), (.getfield 10, 3, 9, 0, 0), (.getfield 235, 3, 5, 5, 0), (.getfield 312, 3, 4, 6, 0), (.iload_n 1, 1, 1, 0, 0), (.iaload, 1, 0, 0, 0)] (pc1 := 17) (lo1 := [some (.ref 0), some (.int (nI h)), none]) (st1 := [.int (μ.1 31 (nI h).toNatClampNeg)]) (μ1 := μ) (vc := vp_in (nI h) 30 ∧ True) rfl (by decide +kernel) rfl ⟨(vp_in_nI (by omega) (by omega)), trivial⟩ ?_
  first | rw [nI_clamp (n := h) (by omega), lr_rlst hR (i := h) hh] | rw [lr_rlst hR (i := h) hh]
  refine pm_if_eq (off := 14) 31 (by decide +kernel) (by decide) (fun (h17 : (g (294 + 11 * h)) = 0) => ?_) (fun (h9 : ¬ ((g (294 + 11 * h)) = 0)) => absurd hw h9)
  refine pm_bl [(.aload_n 0, 1, 0, 0, 0), (.getfield 10, 3, 9, 0, 0), (.iload_n 1, 1, 1, 0, 0)] (pc1 := 36) (lo1 := [some (.ref 0), some (.int (nI h)), none]) (st1 := [.int (nI h), .ref 1]) (μ1 := μ) (vc := True) rfl (by decide +kernel) rfl trivial ?_
  refine pm_callV2 mi_X5_forecast (ix := 317) (b := 1) (ci := 5) (kc2 := 1) (ks2 := 6) (As := [.int (nI h)]) (rest := []) (c_X5_forecast (l := h) (t := t) μ hR hG hh ht ht2) cal_X5_forecast lk9_317 (by decide +kernel) rfl (by decide +kernel) rfl rfl rfl rfl (Nat.le_of_ble_eq_true rfl) (by decide) (by decide) (fun _ _ h9 => h9.elim) ?_
  rintro _ _ ⟨rfl, h9⟩; rw [h9]; clear h9
  show pm_V _ _ _ _ 39 _ [.int (lr_fcs g h (365 - lr_n g 0) 0 t)] _
  refine pm_bl [(.istore_n 2, 1, 2, 0, 0), (.iload_n 2, 1, 2, 0, 0), (.iconst (-1), 1, 0, 0, (-1))] (pc1 := 42) (lo1 := [some (.ref 0), some (.int (nI h)), some (.int (lr_fcs g h (365 - lr_n g 0) 0 t))]) (st1 := [.int (-1), .int (lr_fcs g h (365 - lr_n g 0) 0 t)]) (μ1 := μ) (vc := True) rfl (by decide +kernel) rfl trivial ?_
  refine pm_icmp_ne (off := 14) 56 (by decide +kernel) (by decide) (fun (h9 : ¬ (lr_fcs g h (365 - lr_n g 0) 0 t) = (-1)) => absurd hs h9) (fun (h42 : (lr_fcs g h (365 - lr_n g 0) 0 t) = (-1)) => ?_)
  exact pm_throwXW (is := 320) (tx := "the letter still waits when day 365 is today") pm_exNS rfl (by decide +kernel) rfl (by decide +kernel) (by decide +kernel) (by decide +kernel) (by decide +kernel) (by decide +kernel) (by decide) (by decide) (⟨rfl, rfl⟩)
set_option maxHeartbeats 4000000 in
set_option maxRecDepth 100000 in
theorem c_X9_daysLeft {g : Nat → Int32} {h t : Nat} (μ : pm_Mm) (hR : lr_Rel μ.1 1 g) (hG : lr_G g) (hh : h < lr_n g 289) (hw : g (294 + 11 * h) = 0) (ht : g (297 + 11 * h) = nI t) (ht2 : t ≤ 2) (hs : ¬ lr_fcs g h (365 - lr_n g 0) 0 t = -1) : pm_CT mi_X9_daysLeft [.ref 0, .int (nI h)] μ (fun v μ2 => v = some (.int (lr_fcs g h (365 - lr_n g 0) 0 t)) ∧ μ2 = μ) pm_NX := by
  refine pm_CT_of (lo := [some (.ref 0), some (.int (nI h)), none]) (by decide +kernel) rfl rfl (by intro v hv; simp at hv; rcases hv with rfl | rfl <;> rfl) (Nat.le_of_ble_eq_true rfl) rfl ?_
  have hm1 := lr_mh hG; have hm2 := lr_mw hG; have hm3 := lr_mp hG; have hm4 := lr_mr hG; have hm5 := lr_ma hG; have hm6 := lr_ml hG
  refine pm_bl [(.aload_n 0, 1, 0, 0, 0), (.iload_n 1, 1, 1, 0, 0)] (pc1 := 2) (lo1 := [some (.ref 0), some (.int (nI h)), none]) (st1 := [.int (nI h), .ref 0]) (μ1 := μ) (vc := True) rfl (by decide +kernel) rfl trivial ?_
  refine pm_callV2 mi_X9_requireLetter (ix := 282) (b := 0) (ci := 9) (kc2 := 1) (ks2 := 6) (As := [.int (nI h)]) (rest := []) (c_X9_requireLetter (nI h) μ (by first | exact hR | exact hR1) hG (lr_be_1 hh (by omega))) cal_X9_requireLetter lk9_282 (by decide +kernel) rfl (by decide +kernel) rfl rfl rfl rfl (Nat.le_of_ble_eq_true rfl) (by decide) (by decide) (fun _ _ h9 => h9.elim) ?_
  rintro _ _ ⟨rfl, h9⟩; rw [h9]; clear h9
  show pm_V _ _ _ _ 5 _ [] _
  refine pm_bl [(.aload_n 0, 1, 0, 0, 0), (.getfield 10, 3, 9, 0, 0), (.getfield 235, 3, 5, 5, 0), (.getfield 312, 3, 4, 6, 0), (.iload_n 1, 1, 1, 0, 0), (.iaload, 1, 0, 0, 0)] (pc1 := 17) (lo1 := [some (.ref 0), some (.int (nI h)), none]) (st1 := [.int (μ.1 31 (nI h).toNatClampNeg)]) (μ1 := μ) (vc := vp_in (nI h) 30 ∧ True) rfl (by decide +kernel) rfl ⟨(vp_in_nI (by omega) (by omega)), trivial⟩ ?_
  first | rw [nI_clamp (n := h) (by omega), lr_rlst hR (i := h) hh] | rw [lr_rlst hR (i := h) hh]
  refine pm_if_eq (off := 14) 31 (by decide +kernel) (by decide) (fun (h17 : (g (294 + 11 * h)) = 0) => ?_) (fun (h9 : ¬ ((g (294 + 11 * h)) = 0)) => absurd hw h9)
  refine pm_bl [(.aload_n 0, 1, 0, 0, 0), (.getfield 10, 3, 9, 0, 0), (.iload_n 1, 1, 1, 0, 0)] (pc1 := 36) (lo1 := [some (.ref 0), some (.int (nI h)), none]) (st1 := [.int (nI h), .ref 1]) (μ1 := μ) (vc := True) rfl (by decide +kernel) rfl trivial ?_
  refine pm_callV2 mi_X5_forecast (ix := 317) (b := 1) (ci := 5) (kc2 := 1) (ks2 := 6) (As := [.int (nI h)]) (rest := []) (c_X5_forecast (l := h) (t := t) μ hR hG hh ht ht2) cal_X5_forecast lk9_317 (by decide +kernel) rfl (by decide +kernel) rfl rfl rfl rfl (Nat.le_of_ble_eq_true rfl) (by decide) (by decide) (fun _ _ h9 => h9.elim) ?_
  rintro _ _ ⟨rfl, h9⟩; rw [h9]; clear h9
  show pm_V _ _ _ _ 39 _ [.int (lr_fcs g h (365 - lr_n g 0) 0 t)] _
  refine pm_bl [(.istore_n 2, 1, 2, 0, 0), (.iload_n 2, 1, 2, 0, 0), (.iconst (-1), 1, 0, 0, (-1))] (pc1 := 42) (lo1 := [some (.ref 0), some (.int (nI h)), some (.int (lr_fcs g h (365 - lr_n g 0) 0 t))]) (st1 := [.int (-1), .int (lr_fcs g h (365 - lr_n g 0) 0 t)]) (μ1 := μ) (vc := True) rfl (by decide +kernel) rfl trivial ?_
  refine pm_icmp_ne (off := 14) 56 (by decide +kernel) (by decide) (fun (h42 : ¬ (lr_fcs g h (365 - lr_n g 0) 0 t) = (-1)) => ?_) (fun (h9 : (lr_fcs g h (365 - lr_n g 0) 0 t) = (-1)) => absurd h9 hs)
  refine pm_bl [(.iload_n 2, 1, 2, 0, 0)] (pc1 := 57) (lo1 := [some (.ref 0), some (.int (nI h)), some (.int (lr_fcs g h (365 - lr_n g 0) 0 t))]) (st1 := [.int (lr_fcs g h (365 - lr_n g 0) 0 t)]) (μ1 := μ) (vc := True) rfl (by decide +kernel) rfl trivial ?_
  exact pm_iret (ty := .int) rfl rfl (by decide) (by decide) (by decide +kernel) (⟨rfl, rfl⟩)
