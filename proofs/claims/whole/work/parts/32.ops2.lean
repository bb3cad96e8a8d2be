/-! the model: persons -/
set_option maxHeartbeats 4000000 in
set_option maxRecDepth 100000 in
theorem c_X10_setLimit_no1 {g : Nat → Int32} {x : Int32} (y : Int32) (μ : pm_Mm) (hM : μ.1 48 = g) (hG : lr_G g) (hb : lr_be x (nI (lr_n g 35)) = false) : pm_CT mi_X10_setLimit [.ref 47, .int x, .int y] μ (fun v μ2 => v = some (.int 0) ∧ μ2 = pm_set μ 47 7 1) pm_NX := by
  refine pm_CT_of (lo := [some (.ref 47), some (.int x), some (.int y), none]) (by decide +kernel) rfl rfl (by intro v hv; simp at hv; rcases hv with rfl | rfl | rfl <;> rfl) (Nat.le_of_ble_eq_true rfl) rfl ?_
  have hm1 := lr_mh hG; have hm2 := lr_mw hG; have hm3 := lr_mp hG; have hm4 := lr_mr hG; have hm5 := lr_ma hG; have hm6 := lr_ml hG
  refine pm_bl [(.aload_n 0, 1, 0, 0, 0), (.aload_n 0, 1, 0, 0, 0), (.iload_n 1, 1, 1, 0, 0)] (pc1 := 3) (lo1 := [some (.ref 47), some (.int x), some (.int y), none]) (st1 := [.int x, .ref 47, .ref 47]) (μ1 := μ) (vc := True) rfl (by decide +kernel) rfl trivial ?_
  refine pm_callV2 mi_X10_isPerson (ix := 102) (b := 47) (ci := 10) (kc2 := 0) (ks2 := 0) (As := [.int x]) (rest := [.ref 47]) (c_X10_isPerson x μ hM hG) cal_X10_isPerson lk10_102 (by decide +kernel) rfl (by decide +kernel) rfl rfl rfl rfl (Nat.le_of_ble_eq_true rfl) (by decide) (by decide) (fun _ _ h9 => h9.elim) ?_
  rintro _ _ ⟨rfl, h9⟩; rw [h9]; clear h9
  show pm_V _ _ _ _ 6 _ [.int (lr_b (lr_be x (nI (lr_n g 35)))), .ref 47] _
  refine pm_ifb_ne (off := 7) 13 (by decide +kernel) (by decide) (fun (h9 : (lr_be x (nI (lr_n g 35))) = true) => absurd (hb.symm.trans h9) (by decide)) (fun (h6 : (lr_be x (nI (lr_n g 35))) = false) => ?_)
  refine pm_bl [(.iconst 1, 1, 0, 0, 1), (.goto 18, 3, 28, 0, 0), (.putfield 35, 3, 10, 7, 0), (.aload_n 0, 1, 0, 0, 0), (.getfield 35, 3, 10, 7, 0)] (pc1 := 35) (lo1 := [some (.ref 47), some (.int x), some (.int y), none]) (st1 := [.int ((pm_set μ 47 7 1).1 47 7)]) (μ1 := pm_set μ 47 7 1) (vc := True) rfl (by decide +kernel) rfl trivial ?_
  rw [show (pm_set μ 47 7 1).1 47 7 = 1 from by rw [pm_set_hit] <;> omega]
  refine pm_if_le (off := 5) 40 (by decide +kernel) (by decide) (fun h9 => absurd h9 (by decide)) (fun _ => ?_)
  refine pm_bl [(.iconst 0, 1, 0, 0, 0)] (pc1 := 39) (lo1 := [some (.ref 47), some (.int x), some (.int y), none]) (st1 := [.int 0]) (μ1 := pm_set μ 47 7 1) (vc := True) rfl (by decide +kernel) rfl trivial ?_
  exact pm_iret (ty := .int) rfl rfl (by decide) (by decide) (by decide +kernel) (⟨rfl, rfl⟩)
set_option maxHeartbeats 4000000 in
set_option maxRecDepth 100000 in
theorem c_X10_setLimit_no2 {g : Nat → Int32} {h : Nat} {y : Int32} (μ : pm_Mm) (hM : μ.1 48 = g) (hG : lr_G g) (hh : h < lr_n g 35) (hl : lr_in y 0 9 = false) : pm_CT mi_X10_setLimit [.ref 47, .int (nI h), .int y] μ (fun v μ2 => v = some (.int 0) ∧ μ2 = pm_set μ 47 7 2) pm_NX := by
  refine pm_CT_of (lo := [some (.ref 47), some (.int (nI h)), some (.int y), none]) (by decide +kernel) rfl rfl (by intro v hv; simp at hv; rcases hv with rfl | rfl | rfl <;> rfl) (Nat.le_of_ble_eq_true rfl) rfl ?_
  have hm1 := lr_mh hG; have hm2 := lr_mw hG; have hm3 := lr_mp hG; have hm4 := lr_mr hG; have hm5 := lr_ma hG; have hm6 := lr_ml hG
  refine pm_bl [(.aload_n 0, 1, 0, 0, 0), (.aload_n 0, 1, 0, 0, 0), (.iload_n 1, 1, 1, 0, 0)] (pc1 := 3) (lo1 := [some (.ref 47), some (.int (nI h)), some (.int y), none]) (st1 := [.int (nI h), .ref 47, .ref 47]) (μ1 := μ) (vc := True) rfl (by decide +kernel) rfl trivial ?_
  refine pm_callV2 mi_X10_isPerson (ix := 102) (b := 47) (ci := 10) (kc2 := 0) (ks2 := 0) (As := [.int (nI h)]) (rest := [.ref 47]) (c_X10_isPerson (nI h) μ hM hG) cal_X10_isPerson lk10_102 (by decide +kernel) rfl (by decide +kernel) rfl rfl rfl rfl (Nat.le_of_ble_eq_true rfl) (by decide) (by decide) (fun _ _ h9 => h9.elim) ?_
  rintro _ _ ⟨rfl, h9⟩; rw [h9]; clear h9
  show pm_V _ _ _ _ 6 _ [.int (lr_b (lr_be (nI h) (nI (lr_n g 35)))), .ref 47] _
  refine pm_ifb_ne (off := 7) 13 (by decide +kernel) (by decide) (fun (h6 : (lr_be (nI h) (nI (lr_n g 35))) = true) => ?_) (fun (h9 : (lr_be (nI h) (nI (lr_n g 35))) = false) => absurd (h9.symm.trans (lr_be_1 hh (by omega))) (by decide))
  refine pm_bl [(.iload_n 2, 1, 2, 0, 0), (.iconst 0, 1, 0, 0, 0), (.bipush 9, 2, 0, 0, 9)] (pc1 := 17) (lo1 := [some (.ref 47), some (.int (nI h)), some (.int y), none]) (st1 := [.int 9, .int 0, .int y, .ref 47]) (μ1 := μ) (vc := True) rfl (by decide +kernel) rfl trivial ?_
  refine pm_callS2 mi_X10_in (ix := 45) (kc2 := 0) (ks2 := 0) (As := [.int y, .int 0, .int 9]) (rest := [.ref 47]) (c_X10_in y 0 9 μ) cal_X10_in lk10_45 (by decide +kernel) rfl (by decide +kernel) rfl rfl (Nat.le_of_ble_eq_true rfl) (by decide) (by decide) (fun _ _ h9 => h9.elim) ?_
  rintro _ _ ⟨rfl, h9⟩; rw [h9]; clear h9
  show pm_V _ _ _ _ 20 _ [.int (lr_b (lr_in y 0 9)), .ref 47] _
  refine pm_ifb_eq (off := 7) 27 (by decide +kernel) (by decide) (fun (h20 : (lr_in y 0 9) = false) => ?_) (fun (h9 : (lr_in y 0 9) = true) => absurd (hl.symm.trans h9) (by decide))
  refine pm_bl [(.iconst 2, 1, 0, 0, 2), (.putfield 35, 3, 10, 7, 0), (.aload_n 0, 1, 0, 0, 0), (.getfield 35, 3, 10, 7, 0)] (pc1 := 35) (lo1 := [some (.ref 47), some (.int (nI h)), some (.int y), none]) (st1 := [.int ((pm_set μ 47 7 2).1 47 7)]) (μ1 := pm_set μ 47 7 2) (vc := True) rfl (by decide +kernel) rfl trivial ?_
  rw [show (pm_set μ 47 7 2).1 47 7 = 2 from by rw [pm_set_hit] <;> omega]
  refine pm_if_le (off := 5) 40 (by decide +kernel) (by decide) (fun h9 => absurd h9 (by decide)) (fun _ => ?_)
  refine pm_bl [(.iconst 0, 1, 0, 0, 0)] (pc1 := 39) (lo1 := [some (.ref 47), some (.int (nI h)), some (.int y), none]) (st1 := [.int 0]) (μ1 := pm_set μ 47 7 2) (vc := True) rfl (by decide +kernel) rfl trivial ?_
  exact pm_iret (ty := .int) rfl rfl (by decide) (by decide) (by decide +kernel) (⟨rfl, rfl⟩)
set_option maxHeartbeats 4000000 in
set_option maxRecDepth 100000 in
theorem c_X10_hold_no1 {g : Nat → Int32} {x : Int32} (y : Int32) (μ : pm_Mm) (hM : μ.1 48 = g) (hG : lr_G g) (hb : lr_be x (nI (lr_n g 35)) = false) : pm_CT mi_X10_hold [.ref 47, .int x, .int y] μ (fun v μ2 => v = some (.int 0) ∧ μ2 = pm_set μ 47 7 1) pm_NX := by
  refine pm_CT_of (lo := [some (.ref 47), some (.int x), some (.int y), none]) (by decide +kernel) rfl rfl (by intro v hv; simp at hv; rcases hv with rfl | rfl | rfl <;> rfl) (Nat.le_of_ble_eq_true rfl) rfl ?_
  have hm1 := lr_mh hG; have hm2 := lr_mw hG; have hm3 := lr_mp hG; have hm4 := lr_mr hG; have hm5 := lr_ma hG; have hm6 := lr_ml hG
  refine pm_bl [(.aload_n 0, 1, 0, 0, 0), (.aload_n 0, 1, 0, 0, 0), (.iload_n 1, 1, 1, 0, 0)] (pc1 := 3) (lo1 := [some (.ref 47), some (.int x), some (.int y), none]) (st1 := [.int x, .ref 47, .ref 47]) (μ1 := μ) (vc := True) rfl (by decide +kernel) rfl trivial ?_
  refine pm_callV2 mi_X10_isPerson (ix := 102) (b := 47) (ci := 10) (kc2 := 0) (ks2 := 0) (As := [.int x]) (rest := [.ref 47]) (c_X10_isPerson x μ hM hG) cal_X10_isPerson lk10_102 (by decide +kernel) rfl (by decide +kernel) rfl rfl rfl rfl (Nat.le_of_ble_eq_true rfl) (by decide) (by decide) (fun _ _ h9 => h9.elim) ?_
  rintro _ _ ⟨rfl, h9⟩; rw [h9]; clear h9
  show pm_V _ _ _ _ 6 _ [.int (lr_b (lr_be x (nI (lr_n g 35)))), .ref 47] _
  refine pm_ifb_ne (off := 7) 13 (by decide +kernel) (by decide) (fun (h9 : (lr_be x (nI (lr_n g 35))) = true) => absurd (hb.symm.trans h9) (by decide)) (fun (h6 : (lr_be x (nI (lr_n g 35))) = false) => ?_)
  refine pm_bl [(.iconst 1, 1, 0, 0, 1), (.goto 19, 3, 29, 0, 0), (.putfield 35, 3, 10, 7, 0), (.aload_n 0, 1, 0, 0, 0), (.getfield 35, 3, 10, 7, 0)] (pc1 := 36) (lo1 := [some (.ref 47), some (.int x), some (.int y), none]) (st1 := [.int ((pm_set μ 47 7 1).1 47 7)]) (μ1 := pm_set μ 47 7 1) (vc := True) rfl (by decide +kernel) rfl trivial ?_
  rw [show (pm_set μ 47 7 1).1 47 7 = 1 from by rw [pm_set_hit] <;> omega]
  refine pm_if_le (off := 5) 41 (by decide +kernel) (by decide) (fun h9 => absurd h9 (by decide)) (fun _ => ?_)
  refine pm_bl [(.iconst 0, 1, 0, 0, 0)] (pc1 := 40) (lo1 := [some (.ref 47), some (.int x), some (.int y), none]) (st1 := [.int 0]) (μ1 := pm_set μ 47 7 1) (vc := True) rfl (by decide +kernel) rfl trivial ?_
  exact pm_iret (ty := .int) rfl rfl (by decide) (by decide) (by decide +kernel) (⟨rfl, rfl⟩)
set_option maxHeartbeats 4000000 in
set_option maxRecDepth 100000 in
theorem c_X10_hold_no2 {g : Nat → Int32} {h : Nat} {y : Int32} (μ : pm_Mm) (hM : μ.1 48 = g) (hG : lr_G g) (hh : h < lr_n g 35) (hl : lr_in y (-1) 365 = false) : pm_CT mi_X10_hold [.ref 47, .int (nI h), .int y] μ (fun v μ2 => v = some (.int 0) ∧ μ2 = pm_set μ 47 7 2) pm_NX := by
  refine pm_CT_of (lo := [some (.ref 47), some (.int (nI h)), some (.int y), none]) (by decide +kernel) rfl rfl (by intro v hv; simp at hv; rcases hv with rfl | rfl | rfl <;> rfl) (Nat.le_of_ble_eq_true rfl) rfl ?_
  have hm1 := lr_mh hG; have hm2 := lr_mw hG; have hm3 := lr_mp hG; have hm4 := lr_mr hG; have hm5 := lr_ma hG; have hm6 := lr_ml hG
  refine pm_bl [(.aload_n 0, 1, 0, 0, 0), (.aload_n 0, 1, 0, 0, 0), (.iload_n 1, 1, 1, 0, 0)] (pc1 := 3) (lo1 := [some (.ref 47), some (.int (nI h)), some (.int y), none]) (st1 := [.int (nI h), .ref 47, .ref 47]) (μ1 := μ) (vc := True) rfl (by decide +kernel) rfl trivial ?_
  refine pm_callV2 mi_X10_isPerson (ix := 102) (b := 47) (ci := 10) (kc2 := 0) (ks2 := 0) (As := [.int (nI h)]) (rest := [.ref 47]) (c_X10_isPerson (nI h) μ hM hG) cal_X10_isPerson lk10_102 (by decide +kernel) rfl (by decide +kernel) rfl rfl rfl rfl (Nat.le_of_ble_eq_true rfl) (by decide) (by decide) (fun _ _ h9 => h9.elim) ?_
  rintro _ _ ⟨rfl, h9⟩; rw [h9]; clear h9
  show pm_V _ _ _ _ 6 _ [.int (lr_b (lr_be (nI h) (nI (lr_n g 35)))), .ref 47] _
  refine pm_ifb_ne (off := 7) 13 (by decide +kernel) (by decide) (fun (h6 : (lr_be (nI h) (nI (lr_n g 35))) = true) => ?_) (fun (h9 : (lr_be (nI h) (nI (lr_n g 35))) = false) => absurd (h9.symm.trans (lr_be_1 hh (by omega))) (by decide))
  refine pm_bl [(.iload_n 2, 1, 2, 0, 0), (.iconst (-1), 1, 0, 0, (-1)), (.sipush 365, 3, 0, 0, 365)] (pc1 := 18) (lo1 := [some (.ref 47), some (.int (nI h)), some (.int y), none]) (st1 := [.int 365, .int (-1), .int y, .ref 47]) (μ1 := μ) (vc := True) rfl (by decide +kernel) rfl trivial ?_
  refine pm_callS2 mi_X10_in (ix := 45) (kc2 := 0) (ks2 := 0) (As := [.int y, .int (-1), .int 365]) (rest := [.ref 47]) (c_X10_in y (-1) 365 μ) cal_X10_in lk10_45 (by decide +kernel) rfl (by decide +kernel) rfl rfl (Nat.le_of_ble_eq_true rfl) (by decide) (by decide) (fun _ _ h9 => h9.elim) ?_
  rintro _ _ ⟨rfl, h9⟩; rw [h9]; clear h9
  show pm_V _ _ _ _ 21 _ [.int (lr_b (lr_in y (-1) 365)), .ref 47] _
  refine pm_ifb_eq (off := 7) 28 (by decide +kernel) (by decide) (fun (h21 : (lr_in y (-1) 365) = false) => ?_) (fun (h9 : (lr_in y (-1) 365) = true) => absurd (hl.symm.trans h9) (by decide))
  refine pm_bl [(.iconst 2, 1, 0, 0, 2), (.putfield 35, 3, 10, 7, 0), (.aload_n 0, 1, 0, 0, 0), (.getfield 35, 3, 10, 7, 0)] (pc1 := 36) (lo1 := [some (.ref 47), some (.int (nI h)), some (.int y), none]) (st1 := [.int ((pm_set μ 47 7 2).1 47 7)]) (μ1 := pm_set μ 47 7 2) (vc := True) rfl (by decide +kernel) rfl trivial ?_
  rw [show (pm_set μ 47 7 2).1 47 7 = 2 from by rw [pm_set_hit] <;> omega]
  refine pm_if_le (off := 5) 41 (by decide +kernel) (by decide) (fun h9 => absurd h9 (by decide)) (fun _ => ?_)
  refine pm_bl [(.iconst 0, 1, 0, 0, 0)] (pc1 := 40) (lo1 := [some (.ref 47), some (.int (nI h)), some (.int y), none]) (st1 := [.int 0]) (μ1 := pm_set μ 47 7 2) (vc := True) rfl (by decide +kernel) rfl trivial ?_
  exact pm_iret (ty := .int) rfl rfl (by decide) (by decide) (by decide +kernel) (⟨rfl, rfl⟩)
set_option maxHeartbeats 4000000 in
set_option maxRecDepth 100000 in
theorem c_X10_setLimit {g : Nat → Int32} {h c : Nat} {y : Int32} (μ : pm_Mm) (hM : μ.1 48 = g) (hG : lr_G g) (hp : μ.1 47 5 = nI c) (hc8 : c ≤ 8) (hh : h < lr_n g 35) (hl : lr_in y 0 9 = true) : pm_CT mi_X10_setLimit [.ref 47, .int (nI h), .int y] μ (fun v μ2 => v = some (.int (g (38 + 4 * h))) ∧ lr_fm (lr_chg (pm_set μ 47 7 0) 48) μ2 ∧ μ2.1 48 = upd g (38 + 4 * h) y) pm_NX := by
  refine pm_CT_of (lo := [some (.ref 47), some (.int (nI h)), some (.int y), none]) (by decide +kernel) rfl rfl (by intro v hv; simp at hv; rcases hv with rfl | rfl | rfl <;> rfl) (Nat.le_of_ble_eq_true rfl) rfl ?_
  have hm1 := lr_mh hG; have hm2 := lr_mw hG; have hm3 := lr_mp hG; have hm4 := lr_mr hG; have hm5 := lr_ma hG; have hm6 := lr_ml hG
  refine pm_bl [(.aload_n 0, 1, 0, 0, 0), (.aload_n 0, 1, 0, 0, 0), (.iload_n 1, 1, 1, 0, 0)] (pc1 := 3) (lo1 := [some (.ref 47), some (.int (nI h)), some (.int y), none]) (st1 := [.int (nI h), .ref 47, .ref 47]) (μ1 := μ) (vc := True) rfl (by decide +kernel) rfl trivial ?_
  refine pm_callV2 mi_X10_isPerson (ix := 102) (b := 47) (ci := 10) (kc2 := 0) (ks2 := 0) (As := [.int (nI h)]) (rest := [.ref 47]) (c_X10_isPerson (nI h) μ hM hG) cal_X10_isPerson lk10_102 (by decide +kernel) rfl (by decide +kernel) rfl rfl rfl rfl (Nat.le_of_ble_eq_true rfl) (by decide) (by decide) (fun _ _ h9 => h9.elim) ?_
  rintro _ _ ⟨rfl, h9⟩; rw [h9]; clear h9
  show pm_V _ _ _ _ 6 _ [.int (lr_b (lr_be (nI h) (nI (lr_n g 35)))), .ref 47] _
  refine pm_ifb_ne (off := 7) 13 (by decide +kernel) (by decide) (fun (h6 : (lr_be (nI h) (nI (lr_n g 35))) = true) => ?_) (fun (h9 : (lr_be (nI h) (nI (lr_n g 35))) = false) => absurd (h9.symm.trans (lr_be_1 hh (by omega))) (by decide))
  refine pm_bl [(.iload_n 2, 1, 2, 0, 0), (.iconst 0, 1, 0, 0, 0), (.bipush 9, 2, 0, 0, 9)] (pc1 := 17) (lo1 := [some (.ref 47), some (.int (nI h)), some (.int y), none]) (st1 := [.int 9, .int 0, .int y, .ref 47]) (μ1 := μ) (vc := True) rfl (by decide +kernel) rfl trivial ?_
  refine pm_callS2 mi_X10_in (ix := 45) (kc2 := 0) (ks2 := 0) (As := [.int y, .int 0, .int 9]) (rest := [.ref 47]) (c_X10_in y 0 9 μ) cal_X10_in lk10_45 (by decide +kernel) rfl (by decide +kernel) rfl rfl (Nat.le_of_ble_eq_true rfl) (by decide) (by decide) (fun _ _ h9 => h9.elim) ?_
  rintro _ _ ⟨rfl, h9⟩; rw [h9]; clear h9
  show pm_V _ _ _ _ 20 _ [.int (lr_b (lr_in y 0 9)), .ref 47] _
  refine pm_ifb_eq (off := 7) 27 (by decide +kernel) (by decide) (fun (h9 : (lr_in y 0 9) = false) => absurd (hl.symm.trans h9) (by decide)) (fun (h20 : (lr_in y 0 9) = true) => ?_)
  refine pm_bl [(.iconst 0, 1, 0, 0, 0), (.goto 4, 3, 28, 0, 0), (.putfield 35, 3, 10, 7, 0), (.aload_n 0, 1, 0, 0, 0), (.getfield 35, 3, 10, 7, 0)] (pc1 := 35) (lo1 := [some (.ref 47), some (.int (nI h)), some (.int y), none]) (st1 := [.int ((pm_set μ 47 7 0).1 47 7)]) (μ1 := pm_set μ 47 7 0) (vc := True) rfl (by decide +kernel) rfl trivial ?_
  rw [show (pm_set μ 47 7 0).1 47 7 = 0 from by rw [pm_set_hit] <;> omega]
  refine pm_if_le (off := 5) 40 (by decide +kernel) (by decide) (fun _ => ?_) (fun h9 => absurd h9 (by decide))
  refine pm_bl [(.aload_n 0, 1, 0, 0, 0), (.aload_n 0, 1, 0, 0, 0), (.getfield 7, 3, 10, 0, 0)] (pc1 := 45) (lo1 := [some (.ref 47), some (.int (nI h)), some (.int y), none]) (st1 := [.ref 48, .ref 47]) (μ1 := pm_set μ 47 7 0) (vc := True) rfl (by decide +kernel) rfl trivial ?_
  refine pm_callV2 mi_X10_changes (ix := 66) (b := 47) (ci := 10) (kc2 := 0) (ks2 := 0) (As := [.ref 48]) (rest := []) (c_X10_changes_48 (c := c) (pm_set μ 47 7 0) (by first | exact hp | (rw [pm_set_miss (Or.inr (by decide))]; exact hp)) hc8) cal_X10_changes lk10_66 (by decide +kernel) rfl (by decide +kernel) rfl rfl rfl rfl (Nat.le_of_ble_eq_true rfl) (by decide) (by decide) (fun _ _ h9 => h9.elim) ?_
  rintro _ μ1 ⟨rfl, hq⟩
  have hM1 : μ1.1 48 = g := by rw [hq, lr_chg_off (by decide) (by decide)]; first | exact hM | (rw [pm_set_off (by decide)]; exact hM)
  show pm_V _ _ _ _ 48 _ [] _
  refine pm_bl [(.aload_n 0, 1, 0, 0, 0), (.getfield 7, 3, 10, 0, 0), (.bipush 36, 2, 0, 0, 36), (.iconst 4, 1, 0, 0, 4), (.iload_n 1, 1, 1, 0, 0), (.imul, 1, 0, 0, 0), (.iadd, 1, 0, 0, 0), (.iconst 2, 1, 0, 0, 2), (.iadd, 1, 0, 0, 0)] (pc1 := 60) (lo1 := [some (.ref 47), some (.int (nI h)), some (.int y), none]) (st1 := [.int ((36 + (4 * (nI h))) + 2), .ref 48]) (μ1 := μ1) (vc := True) rfl (by decide +kernel) rfl trivial ?_
  rw [(show ((36 + (4 * (nI h))) + 2 : Int32) = nI ((36 + (4 * (h))) + 2) from by simp only [nI, Int32.ofNat_add, Int32.ofNat_mul]; rfl).trans (congrArg nI (show (36 + (4 * (h))) + 2 = 38 + 4 * h from by omega))]
  refine pm_bl [(.iaload, 1, 0, 0, 0)] (pc1 := 61) (lo1 := [some (.ref 47), some (.int (nI h)), some (.int y), none]) (st1 := [.int (μ1.1 48 (nI (38 + 4 * h)).toNatClampNeg)]) (μ1 := μ1) (vc := vp_in (nI (38 + 4 * h)) 620 ∧ True) rfl (by decide +kernel) rfl ⟨(vp_in_nI (by omega) (by omega)), trivial⟩ ?_
  first | rw [nI_clamp (n := 38 + 4 * h) (by omega), hM1] | rw [hM1]
  refine pm_bl [(.istore_n 3, 1, 3, 0, 0), (.aload_n 0, 1, 0, 0, 0), (.getfield 7, 3, 10, 0, 0), (.bipush 36, 2, 0, 0, 36), (.iconst 4, 1, 0, 0, 4), (.iload_n 1, 1, 1, 0, 0), (.imul, 1, 0, 0, 0), (.iadd, 1, 0, 0, 0), (.iconst 2, 1, 0, 0, 2), (.iadd, 1, 0, 0, 0), (.iload_n 2, 1, 2, 0, 0)] (pc1 := 75) (lo1 := [some (.ref 47), some (.int (nI h)), some (.int y), some (.int (g (38 + 4 * h)))]) (st1 := [.int y, .int ((36 + (4 * (nI h))) + 2), .ref 48]) (μ1 := μ1) (vc := True) rfl (by decide +kernel) rfl trivial ?_
  rw [(show ((36 + (4 * (nI h))) + 2 : Int32) = nI ((36 + (4 * (h))) + 2) from by simp only [nI, Int32.ofNat_add, Int32.ofNat_mul]; rfl).trans (congrArg nI (show (36 + (4 * (h))) + 2 = 38 + 4 * h from by omega))]
  refine pm_bl [(.iastore, 1, 0, 0, 0), (.iload_n 3, 1, 3, 0, 0)] (pc1 := 77) (lo1 := [some (.ref 47), some (.int (nI h)), some (.int y), some (.int (g (38 + 4 * h)))]) (st1 := [.int (g (38 + 4 * h))]) (μ1 := pm_set μ1 48 ((nI (38 + 4 * h)).toNatClampNeg) y) (vc := vp_in (nI (38 + 4 * h)) 620 ∧ True) rfl (by decide +kernel) rfl ⟨(vp_in_nI (by omega) (by omega)), trivial⟩ ?_
  try rw [nI_clamp (n := (38 + 4 * h)) (by omega)]
  exact pm_iret (ty := .int) rfl rfl (by decide) (by decide) (by decide +kernel) (⟨rfl, by rw [← hq]; exact lr_fm.set lr_fm.rf, by rw [pm_set_at, hM1]⟩)
set_option maxHeartbeats 4000000 in
set_option maxRecDepth 100000 in
theorem c_X10_hold {g : Nat → Int32} {h c : Nat} {y : Int32} (μ : pm_Mm) (hM : μ.1 48 = g) (hG : lr_G g) (hp : μ.1 47 5 = nI c) (hc8 : c ≤ 8) (hh : h < lr_n g 35) (hl : lr_in y (-1) 365 = true) : pm_CT mi_X10_hold [.ref 47, .int (nI h), .int y] μ (fun v μ2 => v = some (.int (g (37 + 4 * h))) ∧ lr_fm (lr_chg (pm_set μ 47 7 0) 48) μ2 ∧ μ2.1 48 = upd g (37 + 4 * h) y) pm_NX := by
  refine pm_CT_of (lo := [some (.ref 47), some (.int (nI h)), some (.int y), none]) (by decide +kernel) rfl rfl (by intro v hv; simp at hv; rcases hv with rfl | rfl | rfl <;> rfl) (Nat.le_of_ble_eq_true rfl) rfl ?_
  have hm1 := lr_mh hG; have hm2 := lr_mw hG; have hm3 := lr_mp hG; have hm4 := lr_mr hG; have hm5 := lr_ma hG; have hm6 := lr_ml hG
  refine pm_bl [(.aload_n 0, 1, 0, 0, 0), (.aload_n 0, 1, 0, 0, 0), (.iload_n 1, 1, 1, 0, 0)] (pc1 := 3) (lo1 := [some (.ref 47), some (.int (nI h)), some (.int y), none]) (st1 := [.int (nI h), .ref 47, .ref 47]) (μ1 := μ) (vc := True) rfl (by decide +kernel) rfl trivial ?_
  refine pm_callV2 mi_X10_isPerson (ix := 102) (b := 47) (ci := 10) (kc2 := 0) (ks2 := 0) (As := [.int (nI h)]) (rest := [.ref 47]) (c_X10_isPerson (nI h) μ hM hG) cal_X10_isPerson lk10_102 (by decide +kernel) rfl (by decide +kernel) rfl rfl rfl rfl (Nat.le_of_ble_eq_true rfl) (by decide) (by decide) (fun _ _ h9 => h9.elim) ?_
  rintro _ _ ⟨rfl, h9⟩; rw [h9]; clear h9
  show pm_V _ _ _ _ 6 _ [.int (lr_b (lr_be (nI h) (nI (lr_n g 35)))), .ref 47] _
  refine pm_ifb_ne (off := 7) 13 (by decide +kernel) (by decide) (fun (h6 : (lr_be (nI h) (nI (lr_n g 35))) = true) => ?_) (fun (h9 : (lr_be (nI h) (nI (lr_n g 35))) = false) => absurd (h9.symm.trans (lr_be_1 hh (by omega))) (by decide))
  refine pm_bl [(.iload_n 2, 1, 2, 0, 0), (.iconst (-1), 1, 0, 0, (-1)), (.sipush 365, 3, 0, 0, 365)] (pc1 := 18) (lo1 := [some (.ref 47), some (.int (nI h)), some (.int y), none]) (st1 := [.int 365, .int (-1), .int y, .ref 47]) (μ1 := μ) (vc := True) rfl (by decide +kernel) rfl trivial ?_
  refine pm_callS2 mi_X10_in (ix := 45) (kc2 := 0) (ks2 := 0) (As := [.int y, .int (-1), .int 365]) (rest := [.ref 47]) (c_X10_in y (-1) 365 μ) cal_X10_in lk10_45 (by decide +kernel) rfl (by decide +kernel) rfl rfl (Nat.le_of_ble_eq_true rfl) (by decide) (by decide) (fun _ _ h9 => h9.elim) ?_
  rintro _ _ ⟨rfl, h9⟩; rw [h9]; clear h9
  show pm_V _ _ _ _ 21 _ [.int (lr_b (lr_in y (-1) 365)), .ref 47] _
  refine pm_ifb_eq (off := 7) 28 (by decide +kernel) (by decide) (fun (h9 : (lr_in y (-1) 365) = false) => absurd (hl.symm.trans h9) (by decide)) (fun (h21 : (lr_in y (-1) 365) = true) => ?_)
  refine pm_bl [(.iconst 0, 1, 0, 0, 0), (.goto 4, 3, 29, 0, 0), (.putfield 35, 3, 10, 7, 0), (.aload_n 0, 1, 0, 0, 0), (.getfield 35, 3, 10, 7, 0)] (pc1 := 36) (lo1 := [some (.ref 47), some (.int (nI h)), some (.int y), none]) (st1 := [.int ((pm_set μ 47 7 0).1 47 7)]) (μ1 := pm_set μ 47 7 0) (vc := True) rfl (by decide +kernel) rfl trivial ?_
  rw [show (pm_set μ 47 7 0).1 47 7 = 0 from by rw [pm_set_hit] <;> omega]
  refine pm_if_le (off := 5) 41 (by decide +kernel) (by decide) (fun _ => ?_) (fun h9 => absurd h9 (by decide))
  refine pm_bl [(.aload_n 0, 1, 0, 0, 0), (.aload_n 0, 1, 0, 0, 0), (.getfield 7, 3, 10, 0, 0)] (pc1 := 46) (lo1 := [some (.ref 47), some (.int (nI h)), some (.int y), none]) (st1 := [.ref 48, .ref 47]) (μ1 := pm_set μ 47 7 0) (vc := True) rfl (by decide +kernel) rfl trivial ?_
  refine pm_callV2 mi_X10_changes (ix := 66) (b := 47) (ci := 10) (kc2 := 0) (ks2 := 0) (As := [.ref 48]) (rest := []) (c_X10_changes_48 (c := c) (pm_set μ 47 7 0) (by first | exact hp | (rw [pm_set_miss (Or.inr (by decide))]; exact hp)) hc8) cal_X10_changes lk10_66 (by decide +kernel) rfl (by decide +kernel) rfl rfl rfl rfl (Nat.le_of_ble_eq_true rfl) (by decide) (by decide) (fun _ _ h9 => h9.elim) ?_
  rintro _ μ1 ⟨rfl, hq⟩
  have hM1 : μ1.1 48 = g := by rw [hq, lr_chg_off (by decide) (by decide)]; first | exact hM | (rw [pm_set_off (by decide)]; exact hM)
  show pm_V _ _ _ _ 49 _ [] _
  refine pm_bl [(.aload_n 0, 1, 0, 0, 0), (.getfield 7, 3, 10, 0, 0), (.bipush 36, 2, 0, 0, 36), (.iconst 4, 1, 0, 0, 4), (.iload_n 1, 1, 1, 0, 0), (.imul, 1, 0, 0, 0), (.iadd, 1, 0, 0, 0), (.iconst 1, 1, 0, 0, 1), (.iadd, 1, 0, 0, 0)] (pc1 := 61) (lo1 := [some (.ref 47), some (.int (nI h)), some (.int y), none]) (st1 := [.int ((36 + (4 * (nI h))) + 1), .ref 48]) (μ1 := μ1) (vc := True) rfl (by decide +kernel) rfl trivial ?_
  rw [(show ((36 + (4 * (nI h))) + 1 : Int32) = nI ((36 + (4 * (h))) + 1) from by simp only [nI, Int32.ofNat_add, Int32.ofNat_mul]; rfl).trans (congrArg nI (show (36 + (4 * (h))) + 1 = 37 + 4 * h from by omega))]
  refine pm_bl [(.iaload, 1, 0, 0, 0)] (pc1 := 62) (lo1 := [some (.ref 47), some (.int (nI h)), some (.int y), none]) (st1 := [.int (μ1.1 48 (nI (37 + 4 * h)).toNatClampNeg)]) (μ1 := μ1) (vc := vp_in (nI (37 + 4 * h)) 620 ∧ True) rfl (by decide +kernel) rfl ⟨(vp_in_nI (by omega) (by omega)), trivial⟩ ?_
  first | rw [nI_clamp (n := 37 + 4 * h) (by omega), hM1] | rw [hM1]
  refine pm_bl [(.istore_n 3, 1, 3, 0, 0), (.aload_n 0, 1, 0, 0, 0), (.getfield 7, 3, 10, 0, 0), (.bipush 36, 2, 0, 0, 36), (.iconst 4, 1, 0, 0, 4), (.iload_n 1, 1, 1, 0, 0), (.imul, 1, 0, 0, 0), (.iadd, 1, 0, 0, 0), (.iconst 1, 1, 0, 0, 1), (.iadd, 1, 0, 0, 0), (.iload_n 2, 1, 2, 0, 0)] (pc1 := 76) (lo1 := [some (.ref 47), some (.int (nI h)), some (.int y), some (.int (g (37 + 4 * h)))]) (st1 := [.int y, .int ((36 + (4 * (nI h))) + 1), .ref 48]) (μ1 := μ1) (vc := True) rfl (by decide +kernel) rfl trivial ?_
  rw [(show ((36 + (4 * (nI h))) + 1 : Int32) = nI ((36 + (4 * (h))) + 1) from by simp only [nI, Int32.ofNat_add, Int32.ofNat_mul]; rfl).trans (congrArg nI (show (36 + (4 * (h))) + 1 = 37 + 4 * h from by omega))]
  refine pm_bl [(.iastore, 1, 0, 0, 0), (.iload_n 3, 1, 3, 0, 0)] (pc1 := 78) (lo1 := [some (.ref 47), some (.int (nI h)), some (.int y), some (.int (g (37 + 4 * h)))]) (st1 := [.int (g (37 + 4 * h))]) (μ1 := pm_set μ1 48 ((nI (37 + 4 * h)).toNatClampNeg) y) (vc := vp_in (nI (37 + 4 * h)) 620 ∧ True) rfl (by decide +kernel) rfl ⟨(vp_in_nI (by omega) (by omega)), trivial⟩ ?_
  try rw [nI_clamp (n := (37 + 4 * h)) (by omega)]
  exact pm_iret (ty := .int) rfl rfl (by decide) (by decide) (by decide +kernel) (⟨rfl, by rw [← hq]; exact lr_fm.set lr_fm.rf, by rw [pm_set_at, hM1]⟩)
set_option maxHeartbeats 4000000 in
set_option maxRecDepth 100000 in
theorem c_X10_addPerson_no1 {g : Nat → Int32} {x : Int32} (μ : pm_Mm) (hM : μ.1 48 = g) (hG : lr_G g) (hb : lr_be x (nI (lr_n g 2)) = false) : pm_CT mi_X10_addPerson [.ref 47, .int x] μ (fun v μ2 => v = some (.int 0) ∧ μ2 = pm_set μ 47 7 1) pm_NX := by
  refine pm_CT_of (lo := [some (.ref 47), some (.int x), none]) (by decide +kernel) rfl rfl (by intro v hv; simp at hv; rcases hv with rfl | rfl <;> rfl) (Nat.le_of_ble_eq_true rfl) rfl ?_
  have hm1 := lr_mh hG; have hm2 := lr_mw hG; have hm3 := lr_mp hG; have hm4 := lr_mr hG; have hm5 := lr_ma hG; have hm6 := lr_ml hG
  refine pm_bl [(.aload_n 0, 1, 0, 0, 0), (.aload_n 0, 1, 0, 0, 0), (.iload_n 1, 1, 1, 0, 0)] (pc1 := 3) (lo1 := [some (.ref 47), some (.int x), none]) (st1 := [.int x, .ref 47, .ref 47]) (μ1 := μ) (vc := True) rfl (by decide +kernel) rfl trivial ?_
  refine pm_callV2 mi_X10_isHouse (ix := 70) (b := 47) (ci := 10) (kc2 := 0) (ks2 := 0) (As := [.int x]) (rest := [.ref 47]) (c_X10_isHouse x μ hM hG) cal_X10_isHouse lk10_70 (by decide +kernel) rfl (by decide +kernel) rfl rfl rfl rfl (Nat.le_of_ble_eq_true rfl) (by decide) (by decide) (fun _ _ h9 => h9.elim) ?_
  rintro _ _ ⟨rfl, h9⟩; rw [h9]; clear h9
  show pm_V _ _ _ _ 6 _ [.int (lr_b (lr_be x (nI (lr_n g 2)))), .ref 47] _
  refine pm_ifb_ne (off := 7) 13 (by decide +kernel) (by decide) (fun (h9 : (lr_be x (nI (lr_n g 2))) = true) => absurd (hb.symm.trans h9) (by decide)) (fun (h6 : (lr_be x (nI (lr_n g 2))) = false) => ?_)
  refine pm_bl [(.iconst 1, 1, 0, 0, 1), (.goto 20, 3, 30, 0, 0), (.putfield 35, 3, 10, 7, 0), (.aload_n 0, 1, 0, 0, 0), (.getfield 35, 3, 10, 7, 0)] (pc1 := 37) (lo1 := [some (.ref 47), some (.int x), none]) (st1 := [.int ((pm_set μ 47 7 1).1 47 7)]) (μ1 := pm_set μ 47 7 1) (vc := True) rfl (by decide +kernel) rfl trivial ?_
  rw [show (pm_set μ 47 7 1).1 47 7 = 1 from by rw [pm_set_hit] <;> omega]
  refine pm_if_le (off := 5) 42 (by decide +kernel) (by decide) (fun h9 => absurd h9 (by decide)) (fun _ => ?_)
  refine pm_bl [(.iconst 0, 1, 0, 0, 0)] (pc1 := 41) (lo1 := [some (.ref 47), some (.int x), none]) (st1 := [.int 0]) (μ1 := pm_set μ 47 7 1) (vc := True) rfl (by decide +kernel) rfl trivial ?_
  exact pm_iret (ty := .int) rfl rfl (by decide) (by decide) (by decide +kernel) (⟨rfl, rfl⟩)
set_option maxHeartbeats 4000000 in
set_option maxRecDepth 100000 in
theorem c_X10_addPerson_no2 {g : Nat → Int32} {h : Nat} (μ : pm_Mm) (hM : μ.1 48 = g) (hG : lr_G g) (hh : h < lr_n g 2) (hn : lr_n g 35 = 20) : pm_CT mi_X10_addPerson [.ref 47, .int (nI h)] μ (fun v μ2 => v = some (.int 0) ∧ μ2 = pm_set μ 47 7 2) pm_NX := by
  refine pm_CT_of (lo := [some (.ref 47), some (.int (nI h)), none]) (by decide +kernel) rfl rfl (by intro v hv; simp at hv; rcases hv with rfl | rfl <;> rfl) (Nat.le_of_ble_eq_true rfl) rfl ?_
  have hm1 := lr_mh hG; have hm2 := lr_mw hG; have hm3 := lr_mp hG; have hm4 := lr_mr hG; have hm5 := lr_ma hG; have hm6 := lr_ml hG
  refine pm_bl [(.aload_n 0, 1, 0, 0, 0), (.aload_n 0, 1, 0, 0, 0), (.iload_n 1, 1, 1, 0, 0)] (pc1 := 3) (lo1 := [some (.ref 47), some (.int (nI h)), none]) (st1 := [.int (nI h), .ref 47, .ref 47]) (μ1 := μ) (vc := True) rfl (by decide +kernel) rfl trivial ?_
  refine pm_callV2 mi_X10_isHouse (ix := 70) (b := 47) (ci := 10) (kc2 := 0) (ks2 := 0) (As := [.int (nI h)]) (rest := [.ref 47]) (c_X10_isHouse (nI h) μ hM hG) cal_X10_isHouse lk10_70 (by decide +kernel) rfl (by decide +kernel) rfl rfl rfl rfl (Nat.le_of_ble_eq_true rfl) (by decide) (by decide) (fun _ _ h9 => h9.elim) ?_
  rintro _ _ ⟨rfl, h9⟩; rw [h9]; clear h9
  show pm_V _ _ _ _ 6 _ [.int (lr_b (lr_be (nI h) (nI (lr_n g 2)))), .ref 47] _
  refine pm_ifb_ne (off := 7) 13 (by decide +kernel) (by decide) (fun (h6 : (lr_be (nI h) (nI (lr_n g 2))) = true) => ?_) (fun (h9 : (lr_be (nI h) (nI (lr_n g 2))) = false) => absurd (h9.symm.trans (lr_be_1 hh (by omega))) (by decide))
  refine pm_bl [(.aload_n 0, 1, 0, 0, 0), (.getfield 7, 3, 10, 0, 0), (.bipush 35, 2, 0, 0, 35), (.iaload, 1, 0, 0, 0)] (pc1 := 20) (lo1 := [some (.ref 47), some (.int (nI h)), none]) (st1 := [.int (μ.1 48 (35 : Int32).toNatClampNeg), .ref 47]) (μ1 := μ) (vc := vp_in 35 620 ∧ True) rfl (by decide +kernel) rfl ⟨(by unfold vp_in; decide), trivial⟩ ?_
  rw [show (35 : Int32).toNatClampNeg = 35 from by decide, hM, lr_gp hG]
  refine pm_bl [(.bipush 20, 2, 0, 0, 20)] (pc1 := 22) (lo1 := [some (.ref 47), some (.int (nI h)), none]) (st1 := [.int 20, .int (nI (lr_n g 35)), .ref 47]) (μ1 := μ) (vc := True) rfl (by decide +kernel) rfl trivial ?_
  refine pm_icmp_ne (off := 7) 29 (by decide +kernel) (by decide) (fun (h9 : ¬ (nI (lr_n g 35)) = 20) => absurd (by rw [hn]; decide) h9) (fun (h22 : (nI (lr_n g 35)) = 20) => ?_)
  refine pm_bl [(.iconst 2, 1, 0, 0, 2), (.goto 4, 3, 30, 0, 0), (.putfield 35, 3, 10, 7, 0), (.aload_n 0, 1, 0, 0, 0), (.getfield 35, 3, 10, 7, 0)] (pc1 := 37) (lo1 := [some (.ref 47), some (.int (nI h)), none]) (st1 := [.int ((pm_set μ 47 7 2).1 47 7)]) (μ1 := pm_set μ 47 7 2) (vc := True) rfl (by decide +kernel) rfl trivial ?_
  rw [show (pm_set μ 47 7 2).1 47 7 = 2 from by rw [pm_set_hit] <;> omega]
  refine pm_if_le (off := 5) 42 (by decide +kernel) (by decide) (fun h9 => absurd h9 (by decide)) (fun _ => ?_)
  refine pm_bl [(.iconst 0, 1, 0, 0, 0)] (pc1 := 41) (lo1 := [some (.ref 47), some (.int (nI h)), none]) (st1 := [.int 0]) (μ1 := pm_set μ 47 7 2) (vc := True) rfl (by decide +kernel) rfl trivial ?_
  exact pm_iret (ty := .int) rfl rfl (by decide) (by decide) (by decide +kernel) (⟨rfl, rfl⟩)
set_option maxHeartbeats 4000000 in
set_option maxRecDepth 100000 in
theorem c_X10_addPerson {g : Nat → Int32} {h c : Nat} (μ : pm_Mm) (hM : μ.1 48 = g) (hG : lr_G g) (hp : μ.1 47 5 = nI c) (hc8 : c ≤ 8) (hh : h < lr_n g 2) (hn : lr_n g 35 < 20) : pm_CT mi_X10_addPerson [.ref 47, .int (nI h)] μ (fun v μ2 => v = some (.int (nI (lr_n g 35))) ∧ lr_fm (lr_chg (pm_set μ 47 7 0) 48) μ2 ∧ μ2.1 48 = lr_gX6_add g (nI h)) pm_NX := by
  refine pm_CT_of (lo := [some (.ref 47), some (.int (nI h)), none]) (by decide +kernel) rfl rfl (by intro v hv; simp at hv; rcases hv with rfl | rfl <;> rfl) (Nat.le_of_ble_eq_true rfl) rfl ?_
  have hm1 := lr_mh hG; have hm2 := lr_mw hG; have hm3 := lr_mp hG; have hm4 := lr_mr hG; have hm5 := lr_ma hG; have hm6 := lr_ml hG
  refine pm_bl [(.aload_n 0, 1, 0, 0, 0), (.aload_n 0, 1, 0, 0, 0), (.iload_n 1, 1, 1, 0, 0)] (pc1 := 3) (lo1 := [some (.ref 47), some (.int (nI h)), none]) (st1 := [.int (nI h), .ref 47, .ref 47]) (μ1 := μ) (vc := True) rfl (by decide +kernel) rfl trivial ?_
  refine pm_callV2 mi_X10_isHouse (ix := 70) (b := 47) (ci := 10) (kc2 := 0) (ks2 := 0) (As := [.int (nI h)]) (rest := [.ref 47]) (c_X10_isHouse (nI h) μ hM hG) cal_X10_isHouse lk10_70 (by decide +kernel) rfl (by decide +kernel) rfl rfl rfl rfl (Nat.le_of_ble_eq_true rfl) (by decide) (by decide) (fun _ _ h9 => h9.elim) ?_
  rintro _ _ ⟨rfl, h9⟩; rw [h9]; clear h9
  show pm_V _ _ _ _ 6 _ [.int (lr_b (lr_be (nI h) (nI (lr_n g 2)))), .ref 47] _
  refine pm_ifb_ne (off := 7) 13 (by decide +kernel) (by decide) (fun (h6 : (lr_be (nI h) (nI (lr_n g 2))) = true) => ?_) (fun (h9 : (lr_be (nI h) (nI (lr_n g 2))) = false) => absurd (h9.symm.trans (lr_be_1 hh (by omega))) (by decide))
  refine pm_bl [(.aload_n 0, 1, 0, 0, 0), (.getfield 7, 3, 10, 0, 0), (.bipush 35, 2, 0, 0, 35), (.iaload, 1, 0, 0, 0)] (pc1 := 20) (lo1 := [some (.ref 47), some (.int (nI h)), none]) (st1 := [.int (μ.1 48 (35 : Int32).toNatClampNeg), .ref 47]) (μ1 := μ) (vc := vp_in 35 620 ∧ True) rfl (by decide +kernel) rfl ⟨(by unfold vp_in; decide), trivial⟩ ?_
  rw [show (35 : Int32).toNatClampNeg = 35 from by decide, hM, lr_gp hG]
  refine pm_bl [(.bipush 20, 2, 0, 0, 20)] (pc1 := 22) (lo1 := [some (.ref 47), some (.int (nI h)), none]) (st1 := [.int 20, .int (nI (lr_n g 35)), .ref 47]) (μ1 := μ) (vc := True) rfl (by decide +kernel) rfl trivial ?_
  refine pm_icmp_ne (off := 7) 29 (by decide +kernel) (by decide) (fun (h22 : ¬ (nI (lr_n g 35)) = 20) => ?_) (fun (h9 : (nI (lr_n g 35)) = 20) => absurd ((nI_eq (a := lr_n g 35) (b := 20) (by omega) (by omega)).mp h9) (by omega))
  refine pm_bl [(.iconst 0, 1, 0, 0, 0), (.putfield 35, 3, 10, 7, 0), (.aload_n 0, 1, 0, 0, 0), (.getfield 35, 3, 10, 7, 0)] (pc1 := 37) (lo1 := [some (.ref 47), some (.int (nI h)), none]) (st1 := [.int ((pm_set μ 47 7 0).1 47 7)]) (μ1 := pm_set μ 47 7 0) (vc := True) rfl (by decide +kernel) rfl trivial ?_
  rw [show (pm_set μ 47 7 0).1 47 7 = 0 from by rw [pm_set_hit] <;> omega]
  refine pm_if_le (off := 5) 42 (by decide +kernel) (by decide) (fun _ => ?_) (fun h9 => absurd h9 (by decide))
  refine pm_bl [(.aload_n 0, 1, 0, 0, 0), (.aload_n 0, 1, 0, 0, 0), (.getfield 7, 3, 10, 0, 0)] (pc1 := 47) (lo1 := [some (.ref 47), some (.int (nI h)), none]) (st1 := [.ref 48, .ref 47]) (μ1 := pm_set μ 47 7 0) (vc := True) rfl (by decide +kernel) rfl trivial ?_
  refine pm_callV2 mi_X10_changes (ix := 66) (b := 47) (ci := 10) (kc2 := 0) (ks2 := 0) (As := [.ref 48]) (rest := []) (c_X10_changes_48 (c := c) (pm_set μ 47 7 0) (by first | exact hp | (rw [pm_set_miss (Or.inr (by decide))]; exact hp)) hc8) cal_X10_changes lk10_66 (by decide +kernel) rfl (by decide +kernel) rfl rfl rfl rfl (Nat.le_of_ble_eq_true rfl) (by decide) (by decide) (fun _ _ h9 => h9.elim) ?_
  rintro _ μ1 ⟨rfl, hq⟩
  have hM1 : μ1.1 48 = g := by rw [hq, lr_chg_off (by decide) (by decide)]; first | exact hM | (rw [pm_set_off (by decide)]; exact hM)
  show pm_V _ _ _ _ 50 _ [] _
  refine pm_bl [(.aload_n 0, 1, 0, 0, 0), (.getfield 7, 3, 10, 0, 0), (.bipush 35, 2, 0, 0, 35), (.iaload, 1, 0, 0, 0)] (pc1 := 57) (lo1 := [some (.ref 47), some (.int (nI h)), none]) (st1 := [.int (μ1.1 48 (35 : Int32).toNatClampNeg)]) (μ1 := μ1) (vc := vp_in 35 620 ∧ True) rfl (by decide +kernel) rfl ⟨(by unfold vp_in; decide), trivial⟩ ?_
  rw [show (35 : Int32).toNatClampNeg = 35 from by decide, hM1, lr_gp hG]
  refine pm_bl [(.istore_n 2, 1, 2, 0, 0), (.aload_n 0, 1, 0, 0, 0), (.getfield 7, 3, 10, 0, 0), (.bipush 36, 2, 0, 0, 36), (.iconst 4, 1, 0, 0, 4), (.iload_n 2, 1, 2, 0, 0), (.imul, 1, 0, 0, 0), (.iadd, 1, 0, 0, 0), (.iload_n 1, 1, 1, 0, 0)] (pc1 := 69) (lo1 := [some (.ref 47), some (.int (nI h)), some (.int (nI (lr_n g 35)))]) (st1 := [.int (nI h), .int (36 + (4 * (nI (lr_n g 35)))), .ref 48]) (μ1 := μ1) (vc := True) rfl (by decide +kernel) rfl trivial ?_
  rw [(show (36 + (4 * (nI (lr_n g 35))) : Int32) = nI (36 + (4 * ((lr_n g 35)))) from by simp only [nI, Int32.ofNat_add, Int32.ofNat_mul]; rfl).trans (congrArg nI (show 36 + (4 * ((lr_n g 35))) = 36 + 4 * (lr_n g 35) from by omega))]
  refine pm_bl [(.iastore, 1, 0, 0, 0), (.aload_n 0, 1, 0, 0, 0), (.getfield 7, 3, 10, 0, 0), (.bipush 36, 2, 0, 0, 36), (.iconst 4, 1, 0, 0, 4), (.iload_n 2, 1, 2, 0, 0), (.imul, 1, 0, 0, 0), (.iadd, 1, 0, 0, 0), (.iconst 1, 1, 0, 0, 1), (.iadd, 1, 0, 0, 0), (.iconst (-1), 1, 0, 0, (-1))] (pc1 := 83) (lo1 := [some (.ref 47), some (.int (nI h)), some (.int (nI (lr_n g 35)))]) (st1 := [.int (-1), .int ((36 + (4 * (nI (lr_n g 35)))) + 1), .ref 48]) (μ1 := pm_set μ1 48 ((nI (36 + 4 * (lr_n g 35))).toNatClampNeg) (nI h)) (vc := vp_in (nI (36 + 4 * (lr_n g 35))) 620 ∧ True) rfl (by decide +kernel) rfl ⟨(vp_in_nI (by omega) (by omega)), trivial⟩ ?_
  try rw [nI_clamp (n := (36 + 4 * (lr_n g 35))) (by omega)]
  rw [(show ((36 + (4 * (nI (lr_n g 35)))) + 1 : Int32) = nI ((36 + (4 * ((lr_n g 35)))) + 1) from by simp only [nI, Int32.ofNat_add, Int32.ofNat_mul]; rfl).trans (congrArg nI (show (36 + (4 * ((lr_n g 35)))) + 1 = 37 + 4 * (lr_n g 35) from by omega))]
  refine pm_bl [(.iastore, 1, 0, 0, 0), (.aload_n 0, 1, 0, 0, 0), (.getfield 7, 3, 10, 0, 0), (.bipush 36, 2, 0, 0, 36), (.iconst 4, 1, 0, 0, 4), (.iload_n 2, 1, 2, 0, 0), (.imul, 1, 0, 0, 0), (.iadd, 1, 0, 0, 0), (.iconst 2, 1, 0, 0, 2), (.iadd, 1, 0, 0, 0), (.bipush 9, 2, 0, 0, 9)] (pc1 := 98) (lo1 := [some (.ref 47), some (.int (nI h)), some (.int (nI (lr_n g 35)))]) (st1 := [.int 9, .int ((36 + (4 * (nI (lr_n g 35)))) + 2), .ref 48]) (μ1 := pm_set (pm_set μ1 48 (36 + 4 * (lr_n g 35)) (nI h)) 48 ((nI (37 + 4 * (lr_n g 35))).toNatClampNeg) (-1)) (vc := vp_in (nI (37 + 4 * (lr_n g 35))) 620 ∧ True) rfl (by decide +kernel) rfl ⟨(vp_in_nI (by omega) (by omega)), trivial⟩ ?_
  try rw [nI_clamp (n := (37 + 4 * (lr_n g 35))) (by omega)]
  rw [(show ((36 + (4 * (nI (lr_n g 35)))) + 2 : Int32) = nI ((36 + (4 * ((lr_n g 35)))) + 2) from by simp only [nI, Int32.ofNat_add, Int32.ofNat_mul]; rfl).trans (congrArg nI (show (36 + (4 * ((lr_n g 35)))) + 2 = 38 + 4 * (lr_n g 35) from by omega))]
  refine pm_bl [(.iastore, 1, 0, 0, 0), (.aload_n 0, 1, 0, 0, 0), (.getfield 7, 3, 10, 0, 0), (.bipush 36, 2, 0, 0, 36), (.iconst 4, 1, 0, 0, 4), (.iload_n 2, 1, 2, 0, 0), (.imul, 1, 0, 0, 0), (.iadd, 1, 0, 0, 0), (.iconst 3, 1, 0, 0, 3), (.iadd, 1, 0, 0, 0), (.iconst 0, 1, 0, 0, 0)] (pc1 := 112) (lo1 := [some (.ref 47), some (.int (nI h)), some (.int (nI (lr_n g 35)))]) (st1 := [.int 0, .int ((36 + (4 * (nI (lr_n g 35)))) + 3), .ref 48]) (μ1 := pm_set (pm_set (pm_set μ1 48 (36 + 4 * (lr_n g 35)) (nI h)) 48 (37 + 4 * (lr_n g 35)) (-1)) 48 ((nI (38 + 4 * (lr_n g 35))).toNatClampNeg) 9) (vc := vp_in (nI (38 + 4 * (lr_n g 35))) 620 ∧ True) rfl (by decide +kernel) rfl ⟨(vp_in_nI (by omega) (by omega)), trivial⟩ ?_
  try rw [nI_clamp (n := (38 + 4 * (lr_n g 35))) (by omega)]
  rw [(show ((36 + (4 * (nI (lr_n g 35)))) + 3 : Int32) = nI ((36 + (4 * ((lr_n g 35)))) + 3) from by simp only [nI, Int32.ofNat_add, Int32.ofNat_mul]; rfl).trans (congrArg nI (show (36 + (4 * ((lr_n g 35)))) + 3 = 39 + 4 * (lr_n g 35) from by omega))]
  refine pm_bl [(.iastore, 1, 0, 0, 0), (.aload_n 0, 1, 0, 0, 0), (.getfield 7, 3, 10, 0, 0), (.bipush 35, 2, 0, 0, 35), (.dup2, 1, 0, 0, 0), (.iaload, 1, 0, 0, 0)] (pc1 := 121) (lo1 := [some (.ref 47), some (.int (nI h)), some (.int (nI (lr_n g 35)))]) (st1 := [.int ((pm_set (pm_set (pm_set (pm_set μ1 48 (36 + 4 * (lr_n g 35)) (nI h)) 48 (37 + 4 * (lr_n g 35)) (-1)) 48 (38 + 4 * (lr_n g 35)) 9) 48 ((nI (39 + 4 * (lr_n g 35))).toNatClampNeg) 0).1 48 (35 : Int32).toNatClampNeg), .int 35, .ref 48]) (μ1 := pm_set (pm_set (pm_set (pm_set μ1 48 (36 + 4 * (lr_n g 35)) (nI h)) 48 (37 + 4 * (lr_n g 35)) (-1)) 48 (38 + 4 * (lr_n g 35)) 9) 48 ((nI (39 + 4 * (lr_n g 35))).toNatClampNeg) 0) (vc := vp_in (nI (39 + 4 * (lr_n g 35))) 620 ∧ vp_in 35 620 ∧ True) rfl (by decide +kernel) rfl ⟨(vp_in_nI (by omega) (by omega)), (by unfold vp_in; decide), trivial⟩ ?_
  try rw [show (35 : Int32).toNatClampNeg = 35 from by decide]
  try rw [nI_clamp (n := (39 + 4 * (lr_n g 35))) (by omega)]
  refine pm_bl [(.iconst 1, 1, 0, 0, 1), (.iadd, 1, 0, 0, 0), (.iastore, 1, 0, 0, 0), (.iload_n 2, 1, 2, 0, 0)] (pc1 := 125) (lo1 := [some (.ref 47), some (.int (nI h)), some (.int (nI (lr_n g 35)))]) (st1 := [.int (nI (lr_n g 35))]) (μ1 := pm_set (pm_set (pm_set (pm_set (pm_set μ1 48 (36 + 4 * (lr_n g 35)) (nI h)) 48 (37 + 4 * (lr_n g 35)) (-1)) 48 (38 + 4 * (lr_n g 35)) 9) 48 (39 + 4 * (lr_n g 35)) 0) 48 ((35 : Int32).toNatClampNeg) (((pm_set (pm_set (pm_set (pm_set μ1 48 (36 + 4 * (lr_n g 35)) (nI h)) 48 (37 + 4 * (lr_n g 35)) (-1)) 48 (38 + 4 * (lr_n g 35)) 9) 48 (39 + 4 * (lr_n g 35)) 0).1 48 35) + 1)) (vc := vp_in 35 620 ∧ True) rfl (by decide +kernel) rfl ⟨(by unfold vp_in; decide), trivial⟩ ?_
  try rw [show (35 : Int32).toNatClampNeg = 35 from by decide]
  exact pm_iret (ty := .int) rfl rfl (by decide) (by decide) (by decide +kernel) (⟨rfl, by rw [← hq]; exact lr_fm.set (lr_fm.set (lr_fm.set (lr_fm.set (lr_fm.set lr_fm.rf)))), by rw [pm_set_miss, pm_set_miss, pm_set_miss, pm_set_miss, hM1, lr_gp hG, nI_1] <;> first | (right; omega) | (simp only [pm_set_at]; rw [hM1]; rfl)⟩)
