/-! the model: notes asked for; the text -/
theorem lr_cnar (x : Int32) : narrow .char (.int ((x.toUInt32 % 65536).toInt32)) = .int ((x.toUInt32 % 65536).toInt32) := by
  have e : (x.toUInt32 % 65536) % 65536 = x.toUInt32 % 65536 := by
    apply UInt32.toNat_inj.mp
    rw [UInt32.toNat_mod, UInt32.toNat_mod]
    exact Nat.mod_mod _ _
  show Value.int (((x.toUInt32 % 65536) % 65536).toInt32) = _
  rw [e]
set_option maxHeartbeats 4000000 in
set_option maxRecDepth 100000 in
theorem c_X10_noteLength_no1 {g : Nat → Int32} {x : Int32} (μ : pm_Mm) (hM : μ.1 48 = g) (hG : lr_G g) (hb : lr_be x (nI (lr_n g 289)) = false) : pm_CT mi_X10_noteLength [.ref 47, .int x] μ (fun v μ2 => v = some (.int 0) ∧ μ2 = pm_set μ 47 7 1) pm_NX := by
  refine pm_CT_of (lo := [some (.ref 47), some (.int x)]) (by decide +kernel) rfl rfl (by intro v hv; simp at hv; rcases hv with rfl | rfl <;> rfl) (Nat.le_of_ble_eq_true rfl) rfl ?_
  have hm1 := lr_mh hG; have hm2 := lr_mw hG; have hm3 := lr_mp hG; have hm4 := lr_mr hG; have hm5 := lr_ma hG; have hm6 := lr_ml hG
  refine pm_bl [(.aload_n 0, 1, 0, 0, 0), (.aload_n 0, 1, 0, 0, 0), (.iload_n 1, 1, 1, 0, 0)] (pc1 := 3) (lo1 := [some (.ref 47), some (.int x)]) (st1 := [.int x, .ref 47, .ref 47]) (μ1 := μ) (vc := True) rfl (by decide +kernel) rfl trivial ?_
  refine pm_callV2 mi_X10_isLetter (ix := 134) (b := 47) (ci := 10) (kc2 := 0) (ks2 := 0) (As := [.int x]) (rest := [.ref 47]) (c_X10_isLetter x μ hM hG) cal_X10_isLetter lk10_134 (by decide +kernel) rfl (by decide +kernel) rfl rfl rfl rfl (Nat.le_of_ble_eq_true rfl) (by decide) (by decide) (fun _ _ h9 => h9.elim) ?_
  rintro _ _ ⟨rfl, h9⟩; rw [h9]; clear h9
  show pm_V _ _ _ _ 6 _ [.int (lr_b (lr_be x (nI (lr_n g 289)))), .ref 47] _
  refine pm_ifb_eq (off := 7) 13 (by decide +kernel) (by decide) (fun (h6 : (lr_be x (nI (lr_n g 289))) = false) => ?_) (fun (h9 : (lr_be x (nI (lr_n g 289))) = true) => absurd (hb.symm.trans h9) (by decide))
  refine pm_bl [(.iconst 1, 1, 0, 0, 1), (.putfield 35, 3, 10, 7, 0), (.aload_n 0, 1, 0, 0, 0), (.getfield 35, 3, 10, 7, 0)] (pc1 := 21) (lo1 := [some (.ref 47), some (.int x)]) (st1 := [.int ((pm_set μ 47 7 1).1 47 7)]) (μ1 := pm_set μ 47 7 1) (vc := True) rfl (by decide +kernel) rfl trivial ?_
  rw [show (pm_set μ 47 7 1).1 47 7 = 1 from by rw [pm_set_hit] <;> omega]
  refine pm_if_le (off := 5) 26 (by decide +kernel) (by decide) (fun h9 => absurd h9 (by decide)) (fun _ => ?_)
  refine pm_bl [(.iconst 0, 1, 0, 0, 0)] (pc1 := 25) (lo1 := [some (.ref 47), some (.int x)]) (st1 := [.int 0]) (μ1 := pm_set μ 47 7 1) (vc := True) rfl (by decide +kernel) rfl trivial ?_
  exact pm_iret (ty := .int) rfl rfl (by decide) (by decide) (by decide +kernel) (⟨rfl, rfl⟩)
set_option maxHeartbeats 4000000 in
set_option maxRecDepth 100000 in
theorem c_X10_noteLength {g : Nat → Int32} {h p wt re st ho rs si en tr : Nat} (μ : pm_Mm) (hM : μ.1 48 = g) (hG : lr_G g) (hh : h < lr_n g 289) (hL : lr_Ln g h p wt re st ho rs si en tr) : pm_CT mi_X10_noteLength [.ref 47, .int (nI h)] μ (fun v μ2 => v = some (.int (nI (lr_note p wt re st ho rs si en tr).length)) ∧ lr_Nt (pm_set μ 47 7 0) (lr_note p wt re st ho rs si en tr) μ2) pm_NX := by
  refine pm_CT_of (lo := [some (.ref 47), some (.int (nI h))]) (by decide +kernel) rfl rfl (by intro v hv; simp at hv; rcases hv with rfl | rfl <;> rfl) (Nat.le_of_ble_eq_true rfl) rfl ?_
  have hm1 := lr_mh hG; have hm2 := lr_mw hG; have hm3 := lr_mp hG; have hm4 := lr_mr hG; have hm5 := lr_ma hG; have hm6 := lr_ml hG
  refine pm_bl [(.aload_n 0, 1, 0, 0, 0), (.aload_n 0, 1, 0, 0, 0), (.iload_n 1, 1, 1, 0, 0)] (pc1 := 3) (lo1 := [some (.ref 47), some (.int (nI h))]) (st1 := [.int (nI h), .ref 47, .ref 47]) (μ1 := μ) (vc := True) rfl (by decide +kernel) rfl trivial ?_
  refine pm_callV2 mi_X10_isLetter (ix := 134) (b := 47) (ci := 10) (kc2 := 0) (ks2 := 0) (As := [.int (nI h)]) (rest := [.ref 47]) (c_X10_isLetter (nI h) μ hM hG) cal_X10_isLetter lk10_134 (by decide +kernel) rfl (by decide +kernel) rfl rfl rfl rfl (Nat.le_of_ble_eq_true rfl) (by decide) (by decide) (fun _ _ h9 => h9.elim) ?_
  rintro _ _ ⟨rfl, h9⟩; rw [h9]; clear h9
  show pm_V _ _ _ _ 6 _ [.int (lr_b (lr_be (nI h) (nI (lr_n g 289)))), .ref 47] _
  refine pm_ifb_eq (off := 7) 13 (by decide +kernel) (by decide) (fun (h9 : (lr_be (nI h) (nI (lr_n g 289))) = false) => absurd (h9.symm.trans (lr_be_1 hh (by omega))) (by decide)) (fun (h6 : (lr_be (nI h) (nI (lr_n g 289))) = true) => ?_)
  refine pm_bl [(.iconst 0, 1, 0, 0, 0), (.goto 4, 3, 14, 0, 0), (.putfield 35, 3, 10, 7, 0), (.aload_n 0, 1, 0, 0, 0), (.getfield 35, 3, 10, 7, 0)] (pc1 := 21) (lo1 := [some (.ref 47), some (.int (nI h))]) (st1 := [.int ((pm_set μ 47 7 0).1 47 7)]) (μ1 := pm_set μ 47 7 0) (vc := True) rfl (by decide +kernel) rfl trivial ?_
  rw [show (pm_set μ 47 7 0).1 47 7 = 0 from by rw [pm_set_hit] <;> omega]
  refine pm_if_le (off := 5) 26 (by decide +kernel) (by decide) (fun _ => ?_) (fun h9 => absurd h9 (by decide))
  refine pm_bl [(.aload_n 0, 1, 0, 0, 0), (.iload_n 1, 1, 1, 0, 0)] (pc1 := 28) (lo1 := [some (.ref 47), some (.int (nI h))]) (st1 := [.int (nI h), .ref 47]) (μ1 := pm_set μ 47 7 0) (vc := True) rfl (by decide +kernel) rfl trivial ?_
  refine pm_callV2 mi_X10_notesOf (ix := 176) (b := 47) (ci := 10) (kc2 := 0) (ks2 := 0) (As := [.int (nI h)]) (rest := []) (c_X10_notesOf (l := h) (pm_set μ 47 7 0) (by rw [pm_set_off (by decide)]; exact hM) (by omega) hL) cal_X10_notesOf lk10_176 (by decide +kernel) rfl (by decide +kernel) rfl rfl rfl rfl (Nat.le_of_ble_eq_true rfl) (by decide) (by decide) (fun _ _ h9 => h9.elim) ?_
  rintro _ μ3 ⟨rfl, hN⟩
  show pm_V _ _ _ _ 31 _ [] _
  refine pm_bl [(.aload_n 0, 1, 0, 0, 0), (.getfield 167, 3, 10, 9, 0)] (pc1 := 35) (lo1 := [some (.ref 47), some (.int (nI h))]) (st1 := [.int (μ3.1 47 9)]) (μ1 := μ3) (vc := True) rfl (by decide +kernel) rfl trivial ?_
  rw [hN.2.2.1]
  exact pm_iret (ty := .int) rfl rfl (by decide) (by decide) (by decide +kernel) (⟨rfl, hN⟩)
set_option maxHeartbeats 4000000 in
set_option maxRecDepth 100000 in
theorem c_X10_note_no1 {g : Nat → Int32} {x : Int32} (y : Int32) (μ : pm_Mm) (hM : μ.1 48 = g) (hG : lr_G g) (hb : lr_be x (nI (lr_n g 289)) = false) : pm_CT mi_X10_note [.ref 47, .int x, .int y] μ (fun v μ2 => v = some (.int 97) ∧ μ2 = pm_set μ 47 7 1) pm_NX := by
  refine pm_CT_of (lo := [some (.ref 47), some (.int x), some (.int y)]) (by decide +kernel) rfl rfl (by intro v hv; simp at hv; rcases hv with rfl | rfl | rfl <;> rfl) (Nat.le_of_ble_eq_true rfl) rfl ?_
  have hm1 := lr_mh hG; have hm2 := lr_mw hG; have hm3 := lr_mp hG; have hm4 := lr_mr hG; have hm5 := lr_ma hG; have hm6 := lr_ml hG
  refine pm_bl [(.aload_n 0, 1, 0, 0, 0), (.aload_n 0, 1, 0, 0, 0), (.iload_n 1, 1, 1, 0, 0)] (pc1 := 3) (lo1 := [some (.ref 47), some (.int x), some (.int y)]) (st1 := [.int x, .ref 47, .ref 47]) (μ1 := μ) (vc := True) rfl (by decide +kernel) rfl trivial ?_
  refine pm_callV2 mi_X10_isLetter (ix := 134) (b := 47) (ci := 10) (kc2 := 0) (ks2 := 0) (As := [.int x]) (rest := [.ref 47]) (c_X10_isLetter x μ hM hG) cal_X10_isLetter lk10_134 (by decide +kernel) rfl (by decide +kernel) rfl rfl rfl rfl (Nat.le_of_ble_eq_true rfl) (by decide) (by decide) (fun _ _ h9 => h9.elim) ?_
  rintro _ _ ⟨rfl, h9⟩; rw [h9]; clear h9
  show pm_V _ _ _ _ 6 _ [.int (lr_b (lr_be x (nI (lr_n g 289)))), .ref 47] _
  refine pm_ifb_eq (off := 7) 13 (by decide +kernel) (by decide) (fun (h6 : (lr_be x (nI (lr_n g 289))) = false) => ?_) (fun (h9 : (lr_be x (nI (lr_n g 289))) = true) => absurd (hb.symm.trans h9) (by decide))
  refine pm_bl [(.iconst 1, 1, 0, 0, 1), (.putfield 35, 3, 10, 7, 0), (.aload_n 0, 1, 0, 0, 0), (.getfield 35, 3, 10, 7, 0)] (pc1 := 21) (lo1 := [some (.ref 47), some (.int x), some (.int y)]) (st1 := [.int ((pm_set μ 47 7 1).1 47 7)]) (μ1 := pm_set μ 47 7 1) (vc := True) rfl (by decide +kernel) rfl trivial ?_
  rw [show (pm_set μ 47 7 1).1 47 7 = 1 from by rw [pm_set_hit] <;> omega]
  refine pm_if_le (off := 6) 27 (by decide +kernel) (by decide) (fun h9 => absurd h9 (by decide)) (fun _ => ?_)
  refine pm_bl [(.bipush 97, 2, 0, 0, 97)] (pc1 := 26) (lo1 := [some (.ref 47), some (.int x), some (.int y)]) (st1 := [.int 97]) (μ1 := pm_set μ 47 7 1) (vc := True) rfl (by decide +kernel) rfl trivial ?_
  exact pm_iret (ty := .char) rfl (rfl) (by decide) (by decide) (by decide +kernel) (⟨rfl, rfl⟩)
set_option maxHeartbeats 4000000 in
set_option maxRecDepth 100000 in
theorem c_X10_note_no2 {g : Nat → Int32} {h p wt re st ho rs si en tr : Nat} {y : Int32} (μ : pm_Mm) (hM : μ.1 48 = g) (hG : lr_G g) (hh : h < lr_n g 289) (hL : lr_Ln g h p wt re st ho rs si en tr) (hy : (lr_in y 0 (nI (lr_note p wt re st ho rs si en tr).length - 1)) = false) : pm_CT mi_X10_note [.ref 47, .int (nI h), .int y] μ (fun v μ2 => v = some (.int ((97 + 0 : Int32).toUInt32 % 65536).toInt32) ∧ ∃ M, lr_Nt (pm_set μ 47 7 0) (lr_note p wt re st ho rs si en tr) M ∧ μ2 = pm_set M 47 7 2) pm_NX := by
  refine pm_CT_of (lo := [some (.ref 47), some (.int (nI h)), some (.int y)]) (by decide +kernel) rfl rfl (by intro v hv; simp at hv; rcases hv with rfl | rfl | rfl <;> rfl) (Nat.le_of_ble_eq_true rfl) rfl ?_
  have hm1 := lr_mh hG; have hm2 := lr_mw hG; have hm3 := lr_mp hG; have hm4 := lr_mr hG; have hm5 := lr_ma hG; have hm6 := lr_ml hG
  refine pm_bl [(.aload_n 0, 1, 0, 0, 0), (.aload_n 0, 1, 0, 0, 0), (.iload_n 1, 1, 1, 0, 0)] (pc1 := 3) (lo1 := [some (.ref 47), some (.int (nI h)), some (.int y)]) (st1 := [.int (nI h), .ref 47, .ref 47]) (μ1 := μ) (vc := True) rfl (by decide +kernel) rfl trivial ?_
  refine pm_callV2 mi_X10_isLetter (ix := 134) (b := 47) (ci := 10) (kc2 := 0) (ks2 := 0) (As := [.int (nI h)]) (rest := [.ref 47]) (c_X10_isLetter (nI h) μ hM hG) cal_X10_isLetter lk10_134 (by decide +kernel) rfl (by decide +kernel) rfl rfl rfl rfl (Nat.le_of_ble_eq_true rfl) (by decide) (by decide) (fun _ _ h9 => h9.elim) ?_
  rintro _ _ ⟨rfl, h9⟩; rw [h9]; clear h9
  show pm_V _ _ _ _ 6 _ [.int (lr_b (lr_be (nI h) (nI (lr_n g 289)))), .ref 47] _
  refine pm_ifb_eq (off := 7) 13 (by decide +kernel) (by decide) (fun (h9 : (lr_be (nI h) (nI (lr_n g 289))) = false) => absurd (h9.symm.trans (lr_be_1 hh (by omega))) (by decide)) (fun (h6 : (lr_be (nI h) (nI (lr_n g 289))) = true) => ?_)
  refine pm_bl [(.iconst 0, 1, 0, 0, 0), (.goto 4, 3, 14, 0, 0), (.putfield 35, 3, 10, 7, 0), (.aload_n 0, 1, 0, 0, 0), (.getfield 35, 3, 10, 7, 0)] (pc1 := 21) (lo1 := [some (.ref 47), some (.int (nI h)), some (.int y)]) (st1 := [.int ((pm_set μ 47 7 0).1 47 7)]) (μ1 := pm_set μ 47 7 0) (vc := True) rfl (by decide +kernel) rfl trivial ?_
  rw [show (pm_set μ 47 7 0).1 47 7 = 0 from by rw [pm_set_hit] <;> omega]
  refine pm_if_le (off := 6) 27 (by decide +kernel) (by decide) (fun _ => ?_) (fun h9 => absurd h9 (by decide))
  refine pm_bl [(.aload_n 0, 1, 0, 0, 0), (.iload_n 1, 1, 1, 0, 0)] (pc1 := 29) (lo1 := [some (.ref 47), some (.int (nI h)), some (.int y)]) (st1 := [.int (nI h), .ref 47]) (μ1 := pm_set μ 47 7 0) (vc := True) rfl (by decide +kernel) rfl trivial ?_
  refine pm_callV2 mi_X10_notesOf (ix := 176) (b := 47) (ci := 10) (kc2 := 0) (ks2 := 0) (As := [.int (nI h)]) (rest := []) (c_X10_notesOf (l := h) (pm_set μ 47 7 0) (by rw [pm_set_off (by decide)]; exact hM) (by omega) hL) cal_X10_notesOf lk10_176 (by decide +kernel) rfl (by decide +kernel) rfl rfl rfl rfl (Nat.le_of_ble_eq_true rfl) (by decide) (by decide) (fun _ _ h9 => h9.elim) ?_
  rintro _ μ3 ⟨rfl, hN⟩
  show pm_V _ _ _ _ 32 _ [] _
  refine pm_bl [(.iload_n 2, 1, 2, 0, 0), (.iconst 0, 1, 0, 0, 0), (.aload_n 0, 1, 0, 0, 0), (.getfield 167, 3, 10, 9, 0)] (pc1 := 38) (lo1 := [some (.ref 47), some (.int (nI h)), some (.int y)]) (st1 := [.int (μ3.1 47 9), .int 0, .int y]) (μ1 := μ3) (vc := True) rfl (by decide +kernel) rfl trivial ?_
  rw [hN.2.2.1]
  refine pm_bl [(.iconst 1, 1, 0, 0, 1), (.isub, 1, 0, 0, 0)] (pc1 := 40) (lo1 := [some (.ref 47), some (.int (nI h)), some (.int y)]) (st1 := [.int ((nI (lr_note p wt re st ho rs si en tr).length) - 1), .int 0, .int y]) (μ1 := μ3) (vc := True) rfl (by decide +kernel) rfl trivial ?_
  refine pm_callS2 mi_X10_in (ix := 45) (kc2 := 0) (ks2 := 0) (As := [.int y, .int 0, .int ((nI (lr_note p wt re st ho rs si en tr).length) - 1)]) (rest := []) (c_X10_in y 0 ((nI (lr_note p wt re st ho rs si en tr).length) - 1) μ3) cal_X10_in lk10_45 (by decide +kernel) rfl (by decide +kernel) rfl rfl (Nat.le_of_ble_eq_true rfl) (by decide) (by decide) (fun _ _ h9 => h9.elim) ?_
  rintro _ _ ⟨rfl, h9⟩; rw [h9]; clear h9
  show pm_V _ _ _ _ 43 _ [.int (lr_b (lr_in y 0 ((nI (lr_note p wt re st ho rs si en tr).length) - 1)))] _
  refine pm_ifb_eq (off := 13) 56 (by decide +kernel) (by decide) (fun (h43 : (lr_in y 0 ((nI (lr_note p wt re st ho rs si en tr).length) - 1)) = false) => ?_) (fun (h9 : (lr_in y 0 ((nI (lr_note p wt re st ho rs si en tr).length) - 1)) = true) => absurd (hy.symm.trans h9) (by decide))
  refine pm_bl [(.bipush 97, 2, 0, 0, 97), (.aload_n 0, 1, 0, 0, 0), (.iconst 2, 1, 0, 0, 2)] (pc1 := 60) (lo1 := [some (.ref 47), some (.int (nI h)), some (.int y)]) (st1 := [.int 2, .ref 47, .int 97]) (μ1 := μ3) (vc := True) rfl (by decide +kernel) rfl trivial ?_
  refine pm_callV2 mi_X10_fails (ix := 41) (b := 47) (ci := 10) (kc2 := 0) (ks2 := 0) (As := [.int 2]) (rest := [.int 97]) (c_X10_fails 2 μ3) cal_X10_fails lk10_41 (by decide +kernel) rfl (by decide +kernel) rfl rfl rfl rfl (Nat.le_of_ble_eq_true rfl) (by decide) (by decide) (fun _ _ h9 => h9.elim) ?_
  rintro _ _ ⟨rfl, h9⟩; rw [h9]; clear h9
  show pm_V _ _ _ _ 63 _ [.int 0, .int 97] _
  refine pm_bl [(.iadd, 1, 0, 0, 0), (.i2c, 1, 0, 0, 0)] (pc1 := 65) (lo1 := [some (.ref 47), some (.int (nI h)), some (.int y)]) (st1 := [.int (((97 + 0).toUInt32 % 65536).toInt32)]) (μ1 := pm_set μ3 47 7 2) (vc := True) rfl (by decide +kernel) rfl trivial ?_
  exact pm_iret (ty := .char) rfl (by decide) (by decide) (by decide) (by decide +kernel) (⟨rfl, μ3, hN, rfl⟩)
set_option maxHeartbeats 4000000 in
set_option maxRecDepth 100000 in
theorem c_X10_note {g : Nat → Int32} {h p wt re st ho rs si en tr k : Nat} (μ : pm_Mm) (hM : μ.1 48 = g) (hG : lr_G g) (hh : h < lr_n g 289) (hL : lr_Ln g h p wt re st ho rs si en tr) (hk : k < (lr_note p wt re st ho rs si en tr).length) (hk40 : (lr_note p wt re st ho rs si en tr).length ≤ 40) : pm_CT mi_X10_note [.ref 47, .int (nI h), .int (nI k)] μ (fun v μ2 => v = some (.int ((nI ((lr_note p wt re st ho rs si en tr).getD k 0)).toUInt32 % 65536).toInt32) ∧ lr_Nt (pm_set μ 47 7 0) (lr_note p wt re st ho rs si en tr) μ2) pm_NX := by
  refine pm_CT_of (lo := [some (.ref 47), some (.int (nI h)), some (.int (nI k))]) (by decide +kernel) rfl rfl (by intro v hv; simp at hv; rcases hv with rfl | rfl | rfl <;> rfl) (Nat.le_of_ble_eq_true rfl) rfl ?_
  have hm1 := lr_mh hG; have hm2 := lr_mw hG; have hm3 := lr_mp hG; have hm4 := lr_mr hG; have hm5 := lr_ma hG; have hm6 := lr_ml hG
  have hin : lr_in (nI k) 0 (nI (lr_note p wt re st ho rs si en tr).length - 1) = true := by
    obtain ⟨q, hq⟩ : ∃ q, (lr_note p wt re st ho rs si en tr).length = q + 1 := ⟨(lr_note p wt re st ho rs si en tr).length - 1, by omega⟩
    rw [hq, nI_pred]; unfold lr_in; rw [decide_eq_false (nI_pos (by omega)), decide_eq_false (nI_nlt (by omega) (by omega))]; rfl
  refine pm_bl [(.aload_n 0, 1, 0, 0, 0), (.aload_n 0, 1, 0, 0, 0), (.iload_n 1, 1, 1, 0, 0)] (pc1 := 3) (lo1 := [some (.ref 47), some (.int (nI h)), some (.int (nI k))]) (st1 := [.int (nI h), .ref 47, .ref 47]) (μ1 := μ) (vc := True) rfl (by decide +kernel) rfl trivial ?_
  refine pm_callV2 mi_X10_isLetter (ix := 134) (b := 47) (ci := 10) (kc2 := 0) (ks2 := 0) (As := [.int (nI h)]) (rest := [.ref 47]) (c_X10_isLetter (nI h) μ hM hG) cal_X10_isLetter lk10_134 (by decide +kernel) rfl (by decide +kernel) rfl rfl rfl rfl (Nat.le_of_ble_eq_true rfl) (by decide) (by decide) (fun _ _ h9 => h9.elim) ?_
  rintro _ _ ⟨rfl, h9⟩; rw [h9]; clear h9
  show pm_V _ _ _ _ 6 _ [.int (lr_b (lr_be (nI h) (nI (lr_n g 289)))), .ref 47] _
  refine pm_ifb_eq (off := 7) 13 (by decide +kernel) (by decide) (fun (h9 : (lr_be (nI h) (nI (lr_n g 289))) = false) => absurd (h9.symm.trans (lr_be_1 hh (by omega))) (by decide)) (fun (h6 : (lr_be (nI h) (nI (lr_n g 289))) = true) => ?_)
  refine pm_bl [(.iconst 0, 1, 0, 0, 0), (.goto 4, 3, 14, 0, 0), (.putfield 35, 3, 10, 7, 0), (.aload_n 0, 1, 0, 0, 0), (.getfield 35, 3, 10, 7, 0)] (pc1 := 21) (lo1 := [some (.ref 47), some (.int (nI h)), some (.int (nI k))]) (st1 := [.int ((pm_set μ 47 7 0).1 47 7)]) (μ1 := pm_set μ 47 7 0) (vc := True) rfl (by decide +kernel) rfl trivial ?_
  rw [show (pm_set μ 47 7 0).1 47 7 = 0 from by rw [pm_set_hit] <;> omega]
  refine pm_if_le (off := 6) 27 (by decide +kernel) (by decide) (fun _ => ?_) (fun h9 => absurd h9 (by decide))
  refine pm_bl [(.aload_n 0, 1, 0, 0, 0), (.iload_n 1, 1, 1, 0, 0)] (pc1 := 29) (lo1 := [some (.ref 47), some (.int (nI h)), some (.int (nI k))]) (st1 := [.int (nI h), .ref 47]) (μ1 := pm_set μ 47 7 0) (vc := True) rfl (by decide +kernel) rfl trivial ?_
  refine pm_callV2 mi_X10_notesOf (ix := 176) (b := 47) (ci := 10) (kc2 := 0) (ks2 := 0) (As := [.int (nI h)]) (rest := []) (c_X10_notesOf (l := h) (pm_set μ 47 7 0) (by rw [pm_set_off (by decide)]; exact hM) (by omega) hL) cal_X10_notesOf lk10_176 (by decide +kernel) rfl (by decide +kernel) rfl rfl rfl rfl (Nat.le_of_ble_eq_true rfl) (by decide) (by decide) (fun _ _ h9 => h9.elim) ?_
  rintro _ μ3 ⟨rfl, hN⟩
  show pm_V _ _ _ _ 32 _ [] _
  refine pm_bl [(.iload_n 2, 1, 2, 0, 0), (.iconst 0, 1, 0, 0, 0), (.aload_n 0, 1, 0, 0, 0), (.getfield 167, 3, 10, 9, 0)] (pc1 := 38) (lo1 := [some (.ref 47), some (.int (nI h)), some (.int (nI k))]) (st1 := [.int (μ3.1 47 9), .int 0, .int (nI k)]) (μ1 := μ3) (vc := True) rfl (by decide +kernel) rfl trivial ?_
  rw [hN.2.2.1]
  refine pm_bl [(.iconst 1, 1, 0, 0, 1), (.isub, 1, 0, 0, 0)] (pc1 := 40) (lo1 := [some (.ref 47), some (.int (nI h)), some (.int (nI k))]) (st1 := [.int ((nI (lr_note p wt re st ho rs si en tr).length) - 1), .int 0, .int (nI k)]) (μ1 := μ3) (vc := True) rfl (by decide +kernel) rfl trivial ?_
  refine pm_callS2 mi_X10_in (ix := 45) (kc2 := 0) (ks2 := 0) (As := [.int (nI k), .int 0, .int ((nI (lr_note p wt re st ho rs si en tr).length) - 1)]) (rest := []) (c_X10_in (nI k) 0 ((nI (lr_note p wt re st ho rs si en tr).length) - 1) μ3) cal_X10_in lk10_45 (by decide +kernel) rfl (by decide +kernel) rfl rfl (Nat.le_of_ble_eq_true rfl) (by decide) (by decide) (fun _ _ h9 => h9.elim) ?_
  rintro _ _ ⟨rfl, h9⟩; rw [h9]; clear h9
  show pm_V _ _ _ _ 43 _ [.int (lr_b (lr_in (nI k) 0 ((nI (lr_note p wt re st ho rs si en tr).length) - 1)))] _
  refine pm_ifb_eq (off := 13) 56 (by decide +kernel) (by decide) (fun (h9 : (lr_in (nI k) 0 ((nI (lr_note p wt re st ho rs si en tr).length) - 1)) = false) => absurd (h9.symm.trans hin) (by decide)) (fun (h43 : (lr_in (nI k) 0 ((nI (lr_note p wt re st ho rs si en tr).length) - 1)) = true) => ?_)
  refine pm_bl [(.aload_n 0, 1, 0, 0, 0), (.getfield 22, 3, 10, 8, 0), (.iload_n 2, 1, 2, 0, 0), (.iaload, 1, 0, 0, 0)] (pc1 := 52) (lo1 := [some (.ref 47), some (.int (nI h)), some (.int (nI k))]) (st1 := [.int (μ3.1 52 (nI k).toNatClampNeg)]) (μ1 := μ3) (vc := vp_in (nI k) 40 ∧ True) rfl (by decide +kernel) rfl ⟨(vp_in_nI (by omega) (by omega)), trivial⟩ ?_
  first | rw [nI_clamp (n := k) (by omega), hN.2.2.2 k hk] | rw [hN.2.2.2 k hk]
  refine pm_bl [(.i2c, 1, 0, 0, 0), (.goto 12, 3, 65, 0, 0)] (pc1 := 65) (lo1 := [some (.ref 47), some (.int (nI h)), some (.int (nI k))]) (st1 := [.int (((nI ((lr_note p wt re st ho rs si en tr).getD k 0)).toUInt32 % 65536).toInt32)]) (μ1 := μ3) (vc := True) rfl (by decide +kernel) rfl trivial ?_
  exact pm_iret (ty := .char) rfl (lr_cnar _) (by decide) (by decide) (by decide +kernel) (⟨rfl, hN⟩)
set_option maxHeartbeats 4000000 in
set_option maxRecDepth 100000 in
theorem c_X10_append_no (c : Int32) (μ : pm_Mm) (hn : μ.1 47 11 = 40) : pm_CT mi_X10_append [.ref 47, .int c] μ (fun v μ2 => v = none ∧ μ2 = pm_set μ 47 7 1) pm_NX := by
  refine pm_CT_of (lo := [some (.ref 47), some (.int c)]) (by decide +kernel) rfl rfl (by intro v hv; simp at hv; rcases hv with rfl | rfl <;> rfl) (Nat.le_of_ble_eq_true rfl) rfl ?_
  refine pm_bl [(.aload_n 0, 1, 0, 0, 0), (.aload_n 0, 1, 0, 0, 0), (.getfield 179, 3, 10, 11, 0)] (pc1 := 5) (lo1 := [some (.ref 47), some (.int c)]) (st1 := [.int (μ.1 47 11), .ref 47]) (μ1 := μ) (vc := True) rfl (by decide +kernel) rfl trivial ?_
  rw [show μ.1 47 11 = 40 from by first | exact hn | (rw [pm_set_miss (Or.inr (by decide))]; exact hn) | (rw [pm_set_off (by decide), pm_set_miss (Or.inr (by decide))]; exact hn)]
  refine pm_bl [(.bipush 40, 2, 0, 0, 40)] (pc1 := 7) (lo1 := [some (.ref 47), some (.int c)]) (st1 := [.int 40, .int 40, .ref 47]) (μ1 := μ) (vc := True) rfl (by decide +kernel) rfl trivial ?_
  refine pm_icmp_ne (off := 7) 14 (by decide +kernel) (by decide) (fun h9 => absurd h9 (by decide)) (fun _ => ?_)
  refine pm_bl [(.iconst 1, 1, 0, 0, 1), (.goto 4, 3, 15, 0, 0), (.putfield 35, 3, 10, 7, 0), (.aload_n 0, 1, 0, 0, 0), (.getfield 35, 3, 10, 7, 0)] (pc1 := 22) (lo1 := [some (.ref 47), some (.int c)]) (st1 := [.int ((pm_set μ 47 7 1).1 47 7)]) (μ1 := pm_set μ 47 7 1) (vc := True) rfl (by decide +kernel) rfl trivial ?_
  rw [show (pm_set μ 47 7 1).1 47 7 = 1 from by rw [pm_set_hit] <;> omega]
  refine pm_if_ne (off := 23) 45 (by decide +kernel) (by decide) (fun _ => ?_) (fun h9 => absurd h9 (by decide))
  exact pm_vret rfl (by decide) (by decide) (by decide +kernel) (⟨rfl, by first | rfl | (rw [nI_1])⟩)
set_option maxHeartbeats 4000000 in
set_option maxRecDepth 100000 in
theorem c_X10_append (c : Int32) (μ : pm_Mm) {n : Nat} (hn : μ.1 47 11 = nI n) (hn2 : n < 40) : pm_CT mi_X10_append [.ref 47, .int c] μ (fun v μ2 => v = none ∧ μ2 = pm_set (pm_set (pm_set μ 47 7 0) 53 n c) 47 11 (nI (n + 1))) pm_NX := by
  refine pm_CT_of (lo := [some (.ref 47), some (.int c)]) (by decide +kernel) rfl rfl (by intro v hv; simp at hv; rcases hv with rfl | rfl <;> rfl) (Nat.le_of_ble_eq_true rfl) rfl ?_
  refine pm_bl [(.aload_n 0, 1, 0, 0, 0), (.aload_n 0, 1, 0, 0, 0), (.getfield 179, 3, 10, 11, 0)] (pc1 := 5) (lo1 := [some (.ref 47), some (.int c)]) (st1 := [.int (μ.1 47 11), .ref 47]) (μ1 := μ) (vc := True) rfl (by decide +kernel) rfl trivial ?_
  rw [show μ.1 47 11 = nI n from by first | exact hn | (rw [pm_set_miss (Or.inr (by decide))]; exact hn) | (rw [pm_set_off (by decide), pm_set_miss (Or.inr (by decide))]; exact hn)]
  refine pm_bl [(.bipush 40, 2, 0, 0, 40)] (pc1 := 7) (lo1 := [some (.ref 47), some (.int c)]) (st1 := [.int 40, .int (nI n), .ref 47]) (μ1 := μ) (vc := True) rfl (by decide +kernel) rfl trivial ?_
  refine pm_icmp_ne (off := 7) 14 (by decide +kernel) (by decide) (fun (h7 : ¬ (nI n) = 40) => ?_) (fun (h9 : (nI n) = 40) => absurd ((nI_eq (b := 40) (by omega) (by omega)).mp h9) (by omega))
  refine pm_bl [(.iconst 0, 1, 0, 0, 0), (.putfield 35, 3, 10, 7, 0), (.aload_n 0, 1, 0, 0, 0), (.getfield 35, 3, 10, 7, 0)] (pc1 := 22) (lo1 := [some (.ref 47), some (.int c)]) (st1 := [.int ((pm_set μ 47 7 0).1 47 7)]) (μ1 := pm_set μ 47 7 0) (vc := True) rfl (by decide +kernel) rfl trivial ?_
  rw [show (pm_set μ 47 7 0).1 47 7 = 0 from by rw [pm_set_hit] <;> omega]
  refine pm_if_ne (off := 23) 45 (by decide +kernel) (by decide) (fun h9 => absurd h9 (by decide)) (fun _ => ?_)
  refine pm_bl [(.aload_n 0, 1, 0, 0, 0), (.getfield 25, 3, 10, 10, 0), (.aload_n 0, 1, 0, 0, 0), (.getfield 179, 3, 10, 11, 0)] (pc1 := 33) (lo1 := [some (.ref 47), some (.int c)]) (st1 := [.int ((pm_set μ 47 7 0).1 47 11), .ref 53]) (μ1 := pm_set μ 47 7 0) (vc := True) rfl (by decide +kernel) rfl trivial ?_
  rw [show (pm_set μ 47 7 0).1 47 11 = μ.1 47 11 from by rw [pm_set_miss] <;> omega]
  rw [show μ.1 47 11 = nI n from by first | exact hn | (rw [pm_set_miss (Or.inr (by decide))]; exact hn) | (rw [pm_set_off (by decide), pm_set_miss (Or.inr (by decide))]; exact hn)]
  refine pm_bl [(.iload_n 1, 1, 1, 0, 0), (.iastore, 1, 0, 0, 0), (.aload_n 0, 1, 0, 0, 0), (.dup, 1, 0, 0, 0), (.getfield 179, 3, 10, 11, 0)] (pc1 := 40) (lo1 := [some (.ref 47), some (.int c)]) (st1 := [.int ((pm_set (pm_set μ 47 7 0) 53 ((nI n).toNatClampNeg) c).1 47 11), .ref 47]) (μ1 := pm_set (pm_set μ 47 7 0) 53 ((nI n).toNatClampNeg) c) (vc := vp_in (nI n) 40 ∧ True) rfl (by decide +kernel) rfl ⟨(vp_in_nI (by omega) (by omega)), trivial⟩ ?_
  rw [show (pm_set (pm_set μ 47 7 0) 53 ((nI n).toNatClampNeg) c).1 47 11 = μ.1 47 11 from by rw [pm_set_miss, pm_set_miss] <;> omega]
  rw [show μ.1 47 11 = nI n from by first | exact hn | (rw [pm_set_miss (Or.inr (by decide))]; exact hn) | (rw [pm_set_off (by decide), pm_set_miss (Or.inr (by decide))]; exact hn)]
  try rw [nI_clamp (n := n) (by omega)]
  refine pm_bl [(.iconst 1, 1, 0, 0, 1), (.iadd, 1, 0, 0, 0), (.putfield 179, 3, 10, 11, 0)] (pc1 := 45) (lo1 := [some (.ref 47), some (.int c)]) (st1 := []) (μ1 := pm_set (pm_set (pm_set μ 47 7 0) 53 n c) 47 11 ((nI n) + 1)) (vc := True) rfl (by decide +kernel) rfl trivial ?_
  exact pm_vret rfl (by decide) (by decide) (by decide +kernel) (⟨rfl, by first | rfl | (rw [nI_1])⟩)
set_option maxHeartbeats 4000000 in
set_option maxRecDepth 100000 in
theorem c_X10_faultPosition (μ : pm_Mm) : pm_CT mi_X10_faultPosition [.ref 47] μ (fun v μ2 => v = some (.int (μ.1 47 13)) ∧ μ2 = pm_set μ 47 7 0) pm_NX := by
  refine pm_CT_of (lo := [some (.ref 47)]) (by decide +kernel) rfl rfl (by intro v hv; simp at hv; rcases hv with rfl <;> rfl) (Nat.le_of_ble_eq_true rfl) rfl ?_
  refine pm_bl [(.aload_n 0, 1, 0, 0, 0), (.iconst 0, 1, 0, 0, 0), (.putfield 35, 3, 10, 7, 0), (.aload_n 0, 1, 0, 0, 0), (.getfield 28, 3, 10, 13, 0)] (pc1 := 9) (lo1 := [some (.ref 47)]) (st1 := [.int ((pm_set μ 47 7 0).1 47 13)]) (μ1 := pm_set μ 47 7 0) (vc := True) rfl (by decide +kernel) rfl trivial ?_
  rw [show (pm_set μ 47 7 0).1 47 13 = μ.1 47 13 from by rw [pm_set_miss] <;> omega]
  exact pm_iret (ty := .int) rfl rfl (by decide) (by decide) (by decide +kernel) (⟨rfl, rfl⟩)
/-- the sign at s of a text of n signs, or -1 -/
def lr_hr (t : Nat → Int32) (n s : Nat) : Int32 := if s < n then t s else -1
/-- the model reads at s a text t of n signs -/
def lr_Tx (t : Nat → Int32) (n s : Nat) (μ : pm_Mm) : Prop := μ.1 47 12 = nI s ∧ μ.1 47 11 = nI n ∧ n ≤ 40 ∧ s ≤ 40 ∧ ∀ i, i < n → μ.1 53 i = t i
theorem lr_Tx.set {t : Nat → Int32} {n s s2 : Nat} {μ : pm_Mm} (h : lr_Tx t n s μ) (hs : s2 ≤ 40) : lr_Tx t n s2 (pm_set μ 47 12 (nI s2)) := ⟨by rw [pm_set_hit], by rw [pm_set_miss (Or.inr (by decide))]; exact h.2.1, h.2.2.1, hs, fun i hi => by rw [pm_set_off (by decide)]; exact h.2.2.2.2 i hi⟩
theorem lr_Tx.tl {t : Nat → Int32} {n s r k : Nat} {v : Int32} {μ : pm_Mm} (h : lr_Tx t n s μ) (hr : r = 54 ∨ (r = 47 ∧ k = 15)) : lr_Tx t n s (pm_set μ r k v) := ⟨by rw [pm_set_miss (by omega)]; exact h.1, by rw [pm_set_miss (by omega)]; exact h.2.1, h.2.2.1, h.2.2.2.1, fun i hi => by rw [pm_set_off (by omega)]; exact h.2.2.2.2 i hi⟩
set_option maxHeartbeats 4000000 in
set_option maxRecDepth 100000 in
theorem c_X10_here {t : Nat → Int32} {n s : Nat} (μ : pm_Mm) (hT : lr_Tx t n s μ) : pm_CT mi_X10_here [.ref 47] μ (fun v μ2 => v = some (.int (lr_hr t n s)) ∧ μ2 = μ) pm_NX := by
  refine pm_CT_of (lo := [some (.ref 47)]) (by decide +kernel) rfl rfl (by intro v hv; simp at hv; rcases hv with rfl <;> rfl) (Nat.le_of_ble_eq_true rfl) rfl ?_
  obtain ⟨h12, h11, hn, hs, ht⟩ := hT
  refine pm_bl [(.aload_n 0, 1, 0, 0, 0), (.getfield 182, 3, 10, 12, 0)] (pc1 := 4) (lo1 := [some (.ref 47)]) (st1 := [.int (μ.1 47 12)]) (μ1 := μ) (vc := True) rfl (by decide +kernel) rfl trivial ?_
  rw [h12]
  refine pm_bl [(.aload_n 0, 1, 0, 0, 0), (.getfield 179, 3, 10, 11, 0)] (pc1 := 8) (lo1 := [some (.ref 47)]) (st1 := [.int (μ.1 47 11), .int (nI s)]) (μ1 := μ) (vc := True) rfl (by decide +kernel) rfl trivial ?_
  rw [h11]
  refine pm_icmp_ge (off := 15) 23 (by decide +kernel) (by decide) (fun (h8 : (nI n) ≤ (nI s)) => ?_) (fun (h8 : ¬ ((nI n) ≤ (nI s))) => ?_)
  · refine pm_bl [(.iconst (-1), 1, 0, 0, (-1))] (pc1 := 24) (lo1 := [some (.ref 47)]) (st1 := [.int (-1)]) (μ1 := μ) (vc := True) rfl (by decide +kernel) rfl trivial ?_
    exact pm_iret (ty := .int) rfl rfl (by decide) (by decide) (by decide +kernel) (⟨by unfold lr_hr; rw [if_neg (fun c => absurd h8 (nI_ge c (by omega)))], rfl⟩)
  · refine pm_bl [(.aload_n 0, 1, 0, 0, 0), (.getfield 25, 3, 10, 10, 0), (.aload_n 0, 1, 0, 0, 0), (.getfield 182, 3, 10, 12, 0)] (pc1 := 19) (lo1 := [some (.ref 47)]) (st1 := [.int (μ.1 47 12), .ref 53]) (μ1 := μ) (vc := True) rfl (by decide +kernel) rfl trivial ?_
    rw [h12]
    refine pm_bl [(.iaload, 1, 0, 0, 0)] (pc1 := 20) (lo1 := [some (.ref 47)]) (st1 := [.int (μ.1 53 (nI s).toNatClampNeg)]) (μ1 := μ) (vc := vp_in (nI s) 40 ∧ True) rfl (by decide +kernel) rfl ⟨(vp_in_nI (by have := (nJ_lt (a := s) (b := n) (by omega) (by omega)).mp (Int32.not_le.mp h8); omega) (by omega)), trivial⟩ ?_
    rw [nI_clamp (n := s) (by omega), ht s ((nJ_lt (by omega) (by omega)).mp (Int32.not_le.mp h8))]
    refine pm_bl [(.goto 4, 3, 24, 0, 0)] (pc1 := 24) (lo1 := [some (.ref 47)]) (st1 := [.int (t s)]) (μ1 := μ) (vc := True) rfl (by decide +kernel) rfl trivial ?_
    exact pm_iret (ty := .int) rfl rfl (by decide) (by decide) (by decide +kernel) (⟨by unfold lr_hr; rw [if_pos ((nJ_lt (by omega) (by omega)).mp (Int32.not_le.mp h8))], rfl⟩)
set_option maxHeartbeats 4000000 in
set_option maxRecDepth 100000 in
theorem c_X10_skips {t : Nat → Int32} {n s : Nat} (c : Int32) (hc : ¬ c = -1) (μ : pm_Mm) (hT : lr_Tx t n s μ) : pm_CT mi_X10_skips [.ref 47, .int c] μ (fun v μ2 => v = some (.int (lr_b (decide (lr_hr t n s = c)))) ∧ μ2 = pm_set μ 47 12 (nI (if lr_hr t n s = c then s + 1 else s))) pm_NX := by
  refine pm_CT_of (lo := [some (.ref 47), some (.int c), none]) (by decide +kernel) rfl rfl (by intro v hv; simp at hv; rcases hv with rfl | rfl <;> rfl) (Nat.le_of_ble_eq_true rfl) rfl ?_
  have h12 := hT.1
  refine pm_bl [(.aload_n 0, 1, 0, 0, 0)] (pc1 := 1) (lo1 := [some (.ref 47), some (.int c), none]) (st1 := [.ref 47]) (μ1 := μ) (vc := True) rfl (by decide +kernel) rfl trivial ?_
  refine pm_callV2 mi_X10_here (ix := 185) (b := 47) (ci := 10) (kc2 := 0) (ks2 := 0) (As := []) (rest := []) (c_X10_here μ hT) cal_X10_here lk10_185 (by decide +kernel) rfl (by decide +kernel) rfl rfl rfl rfl (Nat.le_of_ble_eq_true rfl) (by decide) (by decide) (fun _ _ h9 => h9.elim) ?_
  rintro _ _ ⟨rfl, h9⟩; rw [h9]; clear h9
  show pm_V _ _ _ _ 4 _ [.int (lr_hr t n s)] _
  refine pm_bl [(.iload_n 1, 1, 1, 0, 0)] (pc1 := 5) (lo1 := [some (.ref 47), some (.int c), none]) (st1 := [.int c, .int (lr_hr t n s)]) (μ1 := μ) (vc := True) rfl (by decide +kernel) rfl trivial ?_
  refine pm_icmp_ne (off := 7) 12 (by decide +kernel) (by decide) (fun (h5 : ¬ (lr_hr t n s) = c) => ?_) (fun (h5 : (lr_hr t n s) = c) => ?_)
  · refine pm_bl [(.iconst 0, 1, 0, 0, 0), (.istore_n 2, 1, 2, 0, 0), (.aload_n 0, 1, 0, 0, 0), (.dup, 1, 0, 0, 0), (.getfield 182, 3, 10, 12, 0)] (pc1 := 19) (lo1 := [some (.ref 47), some (.int c), some (.int 0)]) (st1 := [.int (μ.1 47 12), .ref 47]) (μ1 := μ) (vc := True) rfl (by decide +kernel) rfl trivial ?_
    rw [h12]
    refine pm_bl [(.iload_n 2, 1, 2, 0, 0)] (pc1 := 20) (lo1 := [some (.ref 47), some (.int c), some (.int 0)]) (st1 := [.int 0, .int (nI s), .ref 47]) (μ1 := μ) (vc := True) rfl (by decide +kernel) rfl trivial ?_
    refine pm_if_eq (off := 7) 27 (by decide +kernel) (by decide) (fun _ => ?_) (fun h9 => absurd h9 (by decide))
    refine pm_bl [(.iconst 0, 1, 0, 0, 0), (.iadd, 1, 0, 0, 0), (.putfield 182, 3, 10, 12, 0), (.iload_n 2, 1, 2, 0, 0)] (pc1 := 33) (lo1 := [some (.ref 47), some (.int c), some (.int 0)]) (st1 := [.int 0]) (μ1 := pm_set μ 47 12 ((nI s) + 0)) (vc := True) rfl (by decide +kernel) rfl trivial ?_
    exact pm_iret (ty := .boolean) rfl (rfl) (by decide) (by decide) (by decide +kernel) (⟨by first | (rw [decide_eq_true (by assumption)]; rfl) | (rw [decide_eq_false (by assumption)]; rfl), by first | (rw [if_pos (by assumption), nI_1]) | (rw [if_neg (by assumption), Int32.add_zero])⟩)
  · refine pm_bl [(.iconst 1, 1, 0, 0, 1), (.goto 4, 3, 13, 0, 0), (.istore_n 2, 1, 2, 0, 0), (.aload_n 0, 1, 0, 0, 0), (.dup, 1, 0, 0, 0), (.getfield 182, 3, 10, 12, 0)] (pc1 := 19) (lo1 := [some (.ref 47), some (.int c), some (.int 1)]) (st1 := [.int (μ.1 47 12), .ref 47]) (μ1 := μ) (vc := True) rfl (by decide +kernel) rfl trivial ?_
    rw [h12]
    refine pm_bl [(.iload_n 2, 1, 2, 0, 0)] (pc1 := 20) (lo1 := [some (.ref 47), some (.int c), some (.int 1)]) (st1 := [.int 1, .int (nI s), .ref 47]) (μ1 := μ) (vc := True) rfl (by decide +kernel) rfl trivial ?_
    refine pm_if_eq (off := 7) 27 (by decide +kernel) (by decide) (fun h9 => absurd h9 (by decide)) (fun _ => ?_)
    refine pm_bl [(.iconst 1, 1, 0, 0, 1), (.goto 4, 3, 28, 0, 0), (.iadd, 1, 0, 0, 0), (.putfield 182, 3, 10, 12, 0), (.iload_n 2, 1, 2, 0, 0)] (pc1 := 33) (lo1 := [some (.ref 47), some (.int c), some (.int 1)]) (st1 := [.int 1]) (μ1 := pm_set μ 47 12 ((nI s) + 1)) (vc := True) rfl (by decide +kernel) rfl trivial ?_
    exact pm_iret (ty := .boolean) rfl (rfl) (by decide) (by decide) (by decide +kernel) (⟨by first | (rw [decide_eq_true (by assumption)]; rfl) | (rw [decide_eq_false (by assumption)]; rfl), by first | (rw [if_pos (by assumption), nI_1]) | (rw [if_neg (by assumption), Int32.add_zero])⟩)
set_option maxHeartbeats 4000000 in
set_option maxRecDepth 100000 in
theorem c_X10_digit_no {t : Nat → Int32} {n s : Nat} (x y : Int32) (μ : pm_Mm) (hT : lr_Tx t n s μ) (hd : (lr_in (lr_hr t n s) (48 + y) 57) = false) : pm_CT mi_X10_digit [.ref 47, .int x, .int y] μ (fun v μ2 => v = some (.int (0)) ∧ μ2 = μ) pm_NX := by
  refine pm_CT_of (lo := [some (.ref 47), some (.int x), some (.int y)]) (by decide +kernel) rfl rfl (by intro v hv; simp at hv; rcases hv with rfl | rfl | rfl <;> rfl) (Nat.le_of_ble_eq_true rfl) rfl ?_
  refine pm_bl [(.aload_n 0, 1, 0, 0, 0)] (pc1 := 1) (lo1 := [some (.ref 47), some (.int x), some (.int y)]) (st1 := [.ref 47]) (μ1 := μ) (vc := True) rfl (by decide +kernel) rfl trivial ?_
  refine pm_callV2 mi_X10_here (ix := 185) (b := 47) (ci := 10) (kc2 := 0) (ks2 := 0) (As := []) (rest := []) (c_X10_here μ hT) cal_X10_here lk10_185 (by decide +kernel) rfl (by decide +kernel) rfl rfl rfl rfl (Nat.le_of_ble_eq_true rfl) (by decide) (by decide) (fun _ _ h9 => h9.elim) ?_
  rintro _ _ ⟨rfl, h9⟩; rw [h9]; clear h9
  show pm_V _ _ _ _ 4 _ [.int (lr_hr t n s)] _
  refine pm_bl [(.bipush 48, 2, 0, 0, 48), (.iload_n 2, 1, 2, 0, 0), (.iadd, 1, 0, 0, 0), (.bipush 57, 2, 0, 0, 57)] (pc1 := 10) (lo1 := [some (.ref 47), some (.int x), some (.int y)]) (st1 := [.int 57, .int (48 + y), .int (lr_hr t n s)]) (μ1 := μ) (vc := True) rfl (by decide +kernel) rfl trivial ?_
  refine pm_callS2 mi_X10_in (ix := 45) (kc2 := 0) (ks2 := 0) (As := [.int (lr_hr t n s), .int (48 + y), .int 57]) (rest := []) (c_X10_in (lr_hr t n s) (48 + y) 57 μ) cal_X10_in lk10_45 (by decide +kernel) rfl (by decide +kernel) rfl rfl (Nat.le_of_ble_eq_true rfl) (by decide) (by decide) (fun _ _ h9 => h9.elim) ?_
  rintro _ _ ⟨rfl, h9⟩; rw [h9]; clear h9
  show pm_V _ _ _ _ 13 _ [.int (lr_b (lr_in (lr_hr t n s) (48 + y) 57))] _
  refine pm_ifb_ne (off := 5) 18 (by decide +kernel) (by decide) (fun (h9 : (lr_in (lr_hr t n s) (48 + y) 57) = true) => absurd (hd.symm.trans h9) (by decide)) (fun (h13 : (lr_in (lr_hr t n s) (48 + y) 57) = false) => ?_)
  refine pm_bl [(.iconst 0, 1, 0, 0, 0)] (pc1 := 17) (lo1 := [some (.ref 47), some (.int x), some (.int y)]) (st1 := [.int 0]) (μ1 := μ) (vc := True) rfl (by decide +kernel) rfl trivial ?_
  exact pm_iret (ty := .boolean) rfl (rfl) (by decide) (by decide) (by decide +kernel) (⟨rfl, rfl⟩)
set_option maxHeartbeats 4000000 in
set_option maxRecDepth 100000 in
theorem c_X10_digit {t : Nat → Int32} {n s a : Nat} (y : Int32) (μ : pm_Mm) (hT : lr_Tx t n s μ) (ha : a < 48) (hd : (lr_in (lr_hr t n s) (48 + y) 57) = true) : pm_CT mi_X10_digit [.ref 47, .int (nI a), .int y] μ (fun v μ2 => v = some (.int 1) ∧ μ2 = pm_set (pm_set μ 54 a (10 * μ.1 54 a + lr_hr t n s - 48)) 47 12 (nI (s + 1))) pm_NX := by
  refine pm_CT_of (lo := [some (.ref 47), some (.int (nI a)), some (.int y)]) (by decide +kernel) rfl rfl (by intro v hv; simp at hv; rcases hv with rfl | rfl | rfl <;> rfl) (Nat.le_of_ble_eq_true rfl) rfl ?_
  have h12 := hT.1
  refine pm_bl [(.aload_n 0, 1, 0, 0, 0)] (pc1 := 1) (lo1 := [some (.ref 47), some (.int (nI a)), some (.int y)]) (st1 := [.ref 47]) (μ1 := μ) (vc := True) rfl (by decide +kernel) rfl trivial ?_
  refine pm_callV2 mi_X10_here (ix := 185) (b := 47) (ci := 10) (kc2 := 0) (ks2 := 0) (As := []) (rest := []) (c_X10_here μ hT) cal_X10_here lk10_185 (by decide +kernel) rfl (by decide +kernel) rfl rfl rfl rfl (Nat.le_of_ble_eq_true rfl) (by decide) (by decide) (fun _ _ h9 => h9.elim) ?_
  rintro _ _ ⟨rfl, h9⟩; rw [h9]; clear h9
  show pm_V _ _ _ _ 4 _ [.int (lr_hr t n s)] _
  refine pm_bl [(.bipush 48, 2, 0, 0, 48), (.iload_n 2, 1, 2, 0, 0), (.iadd, 1, 0, 0, 0), (.bipush 57, 2, 0, 0, 57)] (pc1 := 10) (lo1 := [some (.ref 47), some (.int (nI a)), some (.int y)]) (st1 := [.int 57, .int (48 + y), .int (lr_hr t n s)]) (μ1 := μ) (vc := True) rfl (by decide +kernel) rfl trivial ?_
  refine pm_callS2 mi_X10_in (ix := 45) (kc2 := 0) (ks2 := 0) (As := [.int (lr_hr t n s), .int (48 + y), .int 57]) (rest := []) (c_X10_in (lr_hr t n s) (48 + y) 57 μ) cal_X10_in lk10_45 (by decide +kernel) rfl (by decide +kernel) rfl rfl (Nat.le_of_ble_eq_true rfl) (by decide) (by decide) (fun _ _ h9 => h9.elim) ?_
  rintro _ _ ⟨rfl, h9⟩; rw [h9]; clear h9
  show pm_V _ _ _ _ 13 _ [.int (lr_b (lr_in (lr_hr t n s) (48 + y) 57))] _
  refine pm_ifb_ne (off := 5) 18 (by decide +kernel) (by decide) (fun (h13 : (lr_in (lr_hr t n s) (48 + y) 57) = true) => ?_) (fun (h9 : (lr_in (lr_hr t n s) (48 + y) 57) = false) => absurd (hd.symm.trans h9) (by decide))
  refine pm_bl [(.aload_n 0, 1, 0, 0, 0), (.getfield 32, 3, 10, 14, 0), (.iload_n 1, 1, 1, 0, 0), (.bipush 10, 2, 0, 0, 10), (.aload_n 0, 1, 0, 0, 0), (.getfield 32, 3, 10, 14, 0), (.iload_n 1, 1, 1, 0, 0), (.iaload, 1, 0, 0, 0)] (pc1 := 31) (lo1 := [some (.ref 47), some (.int (nI a)), some (.int y)]) (st1 := [.int (μ.1 54 (nI a).toNatClampNeg), .int 10, .int (nI a), .ref 54]) (μ1 := μ) (vc := vp_in (nI a) 48 ∧ True) rfl (by decide +kernel) rfl ⟨(vp_in_nI (by omega) (by omega)), trivial⟩ ?_
  rw [nI_clamp (n := a) (by omega)]
  refine pm_bl [(.imul, 1, 0, 0, 0), (.aload_n 0, 1, 0, 0, 0)] (pc1 := 33) (lo1 := [some (.ref 47), some (.int (nI a)), some (.int y)]) (st1 := [.ref 47, .int (10 * (μ.1 54 a)), .int (nI a), .ref 54]) (μ1 := μ) (vc := True) rfl (by decide +kernel) rfl trivial ?_
  refine pm_callV2 mi_X10_here (ix := 185) (b := 47) (ci := 10) (kc2 := 0) (ks2 := 0) (As := []) (rest := [.int (10 * (μ.1 54 a)), .int (nI a), .ref 54]) (c_X10_here μ hT) cal_X10_here lk10_185 (by decide +kernel) rfl (by decide +kernel) rfl rfl rfl rfl (Nat.le_of_ble_eq_true rfl) (by decide) (by decide) (fun _ _ h9 => h9.elim) ?_
  rintro _ _ ⟨rfl, h9⟩; rw [h9]; clear h9
  show pm_V _ _ _ _ 36 _ [.int (lr_hr t n s), .int (10 * (μ.1 54 a)), .int (nI a), .ref 54] _
  refine pm_bl [(.iadd, 1, 0, 0, 0), (.bipush 48, 2, 0, 0, 48), (.isub, 1, 0, 0, 0), (.iastore, 1, 0, 0, 0), (.aload_n 0, 1, 0, 0, 0), (.dup, 1, 0, 0, 0), (.getfield 182, 3, 10, 12, 0)] (pc1 := 46) (lo1 := [some (.ref 47), some (.int (nI a)), some (.int y)]) (st1 := [.int ((pm_set μ 54 ((nI a).toNatClampNeg) (((10 * (μ.1 54 a)) + (lr_hr t n s)) - 48)).1 47 12), .ref 47]) (μ1 := pm_set μ 54 ((nI a).toNatClampNeg) (((10 * (μ.1 54 a)) + (lr_hr t n s)) - 48)) (vc := vp_in (nI a) 48 ∧ True) rfl (by decide +kernel) rfl ⟨(vp_in_nI (by omega) (by omega)), trivial⟩ ?_
  rw [show (pm_set μ 54 ((nI a).toNatClampNeg) (((10 * (μ.1 54 a)) + (lr_hr t n s)) - 48)).1 47 12 = μ.1 47 12 from by rw [pm_set_miss] <;> omega]
  rw [show μ.1 47 12 = nI s from by first | exact h12 | (rw [pm_set_off (by decide)]; exact h12)]
  try rw [nI_clamp (n := a) (by omega)]
  refine pm_bl [(.iconst 1, 1, 0, 0, 1), (.iadd, 1, 0, 0, 0), (.putfield 182, 3, 10, 12, 0), (.iconst 1, 1, 0, 0, 1)] (pc1 := 52) (lo1 := [some (.ref 47), some (.int (nI a)), some (.int y)]) (st1 := [.int 1]) (μ1 := pm_set (pm_set μ 54 a (((10 * (μ.1 54 a)) + (lr_hr t n s)) - 48)) 47 12 ((nI s) + 1)) (vc := True) rfl (by decide +kernel) rfl trivial ?_
  exact pm_iret (ty := .boolean) rfl (rfl) (by decide) (by decide) (by decide +kernel) (⟨rfl, by rw [nI_1]⟩)
