/-! the model: allowed, stops, signers -/
set_option maxHeartbeats 4000000 in
set_option maxRecDepth 100000 in
theorem c_X10_allow_no1 {g : Nat → Int32} {x : Int32} (y z : Int32) (μ : pm_Mm) (hM : μ.1 48 = g) (hG : lr_G g) (hb : lr_be x (nI (lr_n g 35)) = false) : pm_CT mi_X10_allow [.ref 47, .int x, .int y, .int z] μ (fun v μ2 => v = some (.int 0) ∧ μ2 = pm_set μ 47 7 1) pm_NX := by
  refine pm_CT_of (lo := [some (.ref 47), some (.int x), some (.int y), some (.int z), none, none]) (by decide +kernel) rfl rfl (by intro v hv; simp at hv; rcases hv with rfl | rfl | rfl | rfl <;> rfl) (Nat.le_of_ble_eq_true rfl) rfl ?_
  have hm1 := lr_mh hG; have hm2 := lr_mw hG; have hm3 := lr_mp hG; have hm4 := lr_mr hG; have hm5 := lr_ma hG; have hm6 := lr_ml hG
  refine pm_bl [(.aload_n 0, 1, 0, 0, 0), (.aload_n 0, 1, 0, 0, 0), (.iload_n 1, 1, 1, 0, 0)] (pc1 := 3) (lo1 := [some (.ref 47), some (.int x), some (.int y), some (.int z), none, none]) (st1 := [.int x, .ref 47, .ref 47]) (μ1 := μ) (vc := True) rfl (by decide +kernel) rfl trivial ?_
  refine pm_callV2 mi_X10_isPerson (ix := 102) (b := 47) (ci := 10) (kc2 := 0) (ks2 := 0) (As := [.int x]) (rest := [.ref 47]) (c_X10_isPerson x μ hM hG) cal_X10_isPerson lk10_102 (by decide +kernel) rfl (by decide +kernel) rfl rfl rfl rfl (Nat.le_of_ble_eq_true rfl) (by decide) (by decide) (fun _ _ h9 => h9.elim) ?_
  rintro _ _ ⟨rfl, h9⟩; rw [h9]; clear h9
  show pm_V _ _ _ _ 6 _ [.int (lr_b (lr_be x (nI (lr_n g 35)))), .ref 47] _
  refine pm_ifb_eq (off := 11) 17 (by decide +kernel) (by decide) (fun (h6 : (lr_be x (nI (lr_n g 35))) = false) => ?_) (fun (h9 : (lr_be x (nI (lr_n g 35))) = true) => absurd (hb.symm.trans h9) (by decide))
  refine pm_bl [(.iconst 1, 1, 0, 0, 1), (.goto 13, 3, 31, 0, 0), (.putfield 35, 3, 10, 7, 0), (.aload_n 0, 1, 0, 0, 0), (.getfield 35, 3, 10, 7, 0)] (pc1 := 38) (lo1 := [some (.ref 47), some (.int x), some (.int y), some (.int z), none, none]) (st1 := [.int ((pm_set μ 47 7 1).1 47 7)]) (μ1 := pm_set μ 47 7 1) (vc := True) rfl (by decide +kernel) rfl trivial ?_
  rw [show (pm_set μ 47 7 1).1 47 7 = 1 from by rw [pm_set_hit] <;> omega]
  refine pm_if_le (off := 5) 43 (by decide +kernel) (by decide) (fun h9 => absurd h9 (by decide)) (fun _ => ?_)
  refine pm_bl [(.iconst 0, 1, 0, 0, 0)] (pc1 := 42) (lo1 := [some (.ref 47), some (.int x), some (.int y), some (.int z), none, none]) (st1 := [.int 0]) (μ1 := pm_set μ 47 7 1) (vc := True) rfl (by decide +kernel) rfl trivial ?_
  exact pm_iret (ty := .boolean) rfl (rfl) (by decide) (by decide) (by decide +kernel) (⟨rfl, rfl⟩)
set_option maxHeartbeats 4000000 in
set_option maxRecDepth 100000 in
theorem c_X10_allow_no1b {g : Nat → Int32} {h : Nat} {x : Int32} (z : Int32) (μ : pm_Mm) (hM : μ.1 48 = g) (hG : lr_G g) (hh : h < lr_n g 35) (hb : lr_be x (nI (lr_n g 35)) = false) : pm_CT mi_X10_allow [.ref 47, .int (nI h), .int x, .int z] μ (fun v μ2 => v = some (.int 0) ∧ μ2 = pm_set μ 47 7 1) pm_NX := by
  refine pm_CT_of (lo := [some (.ref 47), some (.int (nI h)), some (.int x), some (.int z), none, none]) (by decide +kernel) rfl rfl (by intro v hv; simp at hv; rcases hv with rfl | rfl | rfl | rfl <;> rfl) (Nat.le_of_ble_eq_true rfl) rfl ?_
  have hm1 := lr_mh hG; have hm2 := lr_mw hG; have hm3 := lr_mp hG; have hm4 := lr_mr hG; have hm5 := lr_ma hG; have hm6 := lr_ml hG
  refine pm_bl [(.aload_n 0, 1, 0, 0, 0), (.aload_n 0, 1, 0, 0, 0), (.iload_n 1, 1, 1, 0, 0)] (pc1 := 3) (lo1 := [some (.ref 47), some (.int (nI h)), some (.int x), some (.int z), none, none]) (st1 := [.int (nI h), .ref 47, .ref 47]) (μ1 := μ) (vc := True) rfl (by decide +kernel) rfl trivial ?_
  refine pm_callV2 mi_X10_isPerson (ix := 102) (b := 47) (ci := 10) (kc2 := 0) (ks2 := 0) (As := [.int (nI h)]) (rest := [.ref 47]) (c_X10_isPerson (nI h) μ hM hG) cal_X10_isPerson lk10_102 (by decide +kernel) rfl (by decide +kernel) rfl rfl rfl rfl (Nat.le_of_ble_eq_true rfl) (by decide) (by decide) (fun _ _ h9 => h9.elim) ?_
  rintro _ _ ⟨rfl, h9⟩; rw [h9]; clear h9
  show pm_V _ _ _ _ 6 _ [.int (lr_b (lr_be (nI h) (nI (lr_n g 35)))), .ref 47] _
  refine pm_ifb_eq (off := 11) 17 (by decide +kernel) (by decide) (fun (h9 : (lr_be (nI h) (nI (lr_n g 35))) = false) => absurd (h9.symm.trans (lr_be_1 hh (by omega))) (by decide)) (fun (h6 : (lr_be (nI h) (nI (lr_n g 35))) = true) => ?_)
  refine pm_bl [(.aload_n 0, 1, 0, 0, 0), (.iload_n 2, 1, 2, 0, 0)] (pc1 := 11) (lo1 := [some (.ref 47), some (.int (nI h)), some (.int x), some (.int z), none, none]) (st1 := [.int x, .ref 47, .ref 47]) (μ1 := μ) (vc := True) rfl (by decide +kernel) rfl trivial ?_
  refine pm_callV2 mi_X10_isPerson (ix := 102) (b := 47) (ci := 10) (kc2 := 0) (ks2 := 0) (As := [.int x]) (rest := [.ref 47]) (c_X10_isPerson x μ hM hG) cal_X10_isPerson lk10_102 (by decide +kernel) rfl (by decide +kernel) rfl rfl rfl rfl (Nat.le_of_ble_eq_true rfl) (by decide) (by decide) (fun _ _ h9 => h9.elim) ?_
  rintro _ _ ⟨rfl, h9⟩; rw [h9]; clear h9
  show pm_V _ _ _ _ 14 _ [.int (lr_b (lr_be x (nI (lr_n g 35)))), .ref 47] _
  refine pm_ifb_ne (off := 7) 21 (by decide +kernel) (by decide) (fun (h9 : (lr_be x (nI (lr_n g 35))) = true) => absurd (hb.symm.trans h9) (by decide)) (fun (h14 : (lr_be x (nI (lr_n g 35))) = false) => ?_)
  refine pm_bl [(.iconst 1, 1, 0, 0, 1), (.goto 13, 3, 31, 0, 0), (.putfield 35, 3, 10, 7, 0), (.aload_n 0, 1, 0, 0, 0), (.getfield 35, 3, 10, 7, 0)] (pc1 := 38) (lo1 := [some (.ref 47), some (.int (nI h)), some (.int x), some (.int z), none, none]) (st1 := [.int ((pm_set μ 47 7 1).1 47 7)]) (μ1 := pm_set μ 47 7 1) (vc := True) rfl (by decide +kernel) rfl trivial ?_
  rw [show (pm_set μ 47 7 1).1 47 7 = 1 from by rw [pm_set_hit] <;> omega]
  refine pm_if_le (off := 5) 43 (by decide +kernel) (by decide) (fun h9 => absurd h9 (by decide)) (fun _ => ?_)
  refine pm_bl [(.iconst 0, 1, 0, 0, 0)] (pc1 := 42) (lo1 := [some (.ref 47), some (.int (nI h)), some (.int x), some (.int z), none, none]) (st1 := [.int 0]) (μ1 := pm_set μ 47 7 1) (vc := True) rfl (by decide +kernel) rfl trivial ?_
  exact pm_iret (ty := .boolean) rfl (rfl) (by decide) (by decide) (by decide +kernel) (⟨rfl, rfl⟩)
set_option maxHeartbeats 4000000 in
set_option maxRecDepth 100000 in
theorem c_X10_allow_no2 {g : Nat → Int32} {h : Nat} (z : Int32) (μ : pm_Mm) (hM : μ.1 48 = g) (hG : lr_G g) (hh : h < lr_n g 35) : pm_CT mi_X10_allow [.ref 47, .int (nI h), .int (nI h), .int z] μ (fun v μ2 => v = some (.int 0) ∧ μ2 = pm_set μ 47 7 2) pm_NX := by
  refine pm_CT_of (lo := [some (.ref 47), some (.int (nI h)), some (.int (nI h)), some (.int z), none, none]) (by decide +kernel) rfl rfl (by intro v hv; simp at hv; rcases hv with rfl | rfl | rfl | rfl <;> rfl) (Nat.le_of_ble_eq_true rfl) rfl ?_
  have hm1 := lr_mh hG; have hm2 := lr_mw hG; have hm3 := lr_mp hG; have hm4 := lr_mr hG; have hm5 := lr_ma hG; have hm6 := lr_ml hG
  refine pm_bl [(.aload_n 0, 1, 0, 0, 0), (.aload_n 0, 1, 0, 0, 0), (.iload_n 1, 1, 1, 0, 0)] (pc1 := 3) (lo1 := [some (.ref 47), some (.int (nI h)), some (.int (nI h)), some (.int z), none, none]) (st1 := [.int (nI h), .ref 47, .ref 47]) (μ1 := μ) (vc := True) rfl (by decide +kernel) rfl trivial ?_
  refine pm_callV2 mi_X10_isPerson (ix := 102) (b := 47) (ci := 10) (kc2 := 0) (ks2 := 0) (As := [.int (nI h)]) (rest := [.ref 47]) (c_X10_isPerson (nI h) μ hM hG) cal_X10_isPerson lk10_102 (by decide +kernel) rfl (by decide +kernel) rfl rfl rfl rfl (Nat.le_of_ble_eq_true rfl) (by decide) (by decide) (fun _ _ h9 => h9.elim) ?_
  rintro _ _ ⟨rfl, h9⟩; rw [h9]; clear h9
  show pm_V _ _ _ _ 6 _ [.int (lr_b (lr_be (nI h) (nI (lr_n g 35)))), .ref 47] _
  refine pm_ifb_eq (off := 11) 17 (by decide +kernel) (by decide) (fun (h9 : (lr_be (nI h) (nI (lr_n g 35))) = false) => absurd (h9.symm.trans (lr_be_1 hh (by omega))) (by decide)) (fun (h6 : (lr_be (nI h) (nI (lr_n g 35))) = true) => ?_)
  refine pm_bl [(.aload_n 0, 1, 0, 0, 0), (.iload_n 2, 1, 2, 0, 0)] (pc1 := 11) (lo1 := [some (.ref 47), some (.int (nI h)), some (.int (nI h)), some (.int z), none, none]) (st1 := [.int (nI h), .ref 47, .ref 47]) (μ1 := μ) (vc := True) rfl (by decide +kernel) rfl trivial ?_
  refine pm_callV2 mi_X10_isPerson (ix := 102) (b := 47) (ci := 10) (kc2 := 0) (ks2 := 0) (As := [.int (nI h)]) (rest := [.ref 47]) (c_X10_isPerson (nI h) μ hM hG) cal_X10_isPerson lk10_102 (by decide +kernel) rfl (by decide +kernel) rfl rfl rfl rfl (Nat.le_of_ble_eq_true rfl) (by decide) (by decide) (fun _ _ h9 => h9.elim) ?_
  rintro _ _ ⟨rfl, h9⟩; rw [h9]; clear h9
  show pm_V _ _ _ _ 14 _ [.int (lr_b (lr_be (nI h) (nI (lr_n g 35)))), .ref 47] _
  refine pm_ifb_ne (off := 7) 21 (by decide +kernel) (by decide) (fun (h14 : (lr_be (nI h) (nI (lr_n g 35))) = true) => ?_) (fun (h9 : (lr_be (nI h) (nI (lr_n g 35))) = false) => absurd (h9.symm.trans (lr_be_1 hh (by omega))) (by decide))
  refine pm_bl [(.iload_n 1, 1, 1, 0, 0), (.iload_n 2, 1, 2, 0, 0)] (pc1 := 23) (lo1 := [some (.ref 47), some (.int (nI h)), some (.int (nI h)), some (.int z), none, none]) (st1 := [.int (nI h), .int (nI h), .ref 47]) (μ1 := μ) (vc := True) rfl (by decide +kernel) rfl trivial ?_
  refine pm_icmp_ne (off := 7) 30 (by decide +kernel) (by decide) (fun (h9 : ¬ (nI h) = (nI h)) => absurd rfl h9) (fun (h23 : (nI h) = (nI h)) => ?_)
  refine pm_bl [(.iconst 2, 1, 0, 0, 2), (.goto 4, 3, 31, 0, 0), (.putfield 35, 3, 10, 7, 0), (.aload_n 0, 1, 0, 0, 0), (.getfield 35, 3, 10, 7, 0)] (pc1 := 38) (lo1 := [some (.ref 47), some (.int (nI h)), some (.int (nI h)), some (.int z), none, none]) (st1 := [.int ((pm_set μ 47 7 2).1 47 7)]) (μ1 := pm_set μ 47 7 2) (vc := True) rfl (by decide +kernel) rfl trivial ?_
  rw [show (pm_set μ 47 7 2).1 47 7 = 2 from by rw [pm_set_hit] <;> omega]
  refine pm_if_le (off := 5) 43 (by decide +kernel) (by decide) (fun h9 => absurd h9 (by decide)) (fun _ => ?_)
  refine pm_bl [(.iconst 0, 1, 0, 0, 0)] (pc1 := 42) (lo1 := [some (.ref 47), some (.int (nI h)), some (.int (nI h)), some (.int z), none, none]) (st1 := [.int 0]) (μ1 := pm_set μ 47 7 2) (vc := True) rfl (by decide +kernel) rfl trivial ?_
  exact pm_iret (ty := .boolean) rfl (rfl) (by decide) (by decide) (by decide +kernel) (⟨rfl, rfl⟩)
set_option maxHeartbeats 4000000 in
set_option maxRecDepth 100000 in
theorem c_X10_allow {g : Nat → Int32} {h q c : Nat} (z : Int32) (μ : pm_Mm) (hM : μ.1 48 = g) (hG : lr_G g) (hp : μ.1 47 5 = nI c) (hc8 : c ≤ 8) (hh : h < lr_n g 35) (hq2 : q < lr_n g 35) (hne : h ≠ q) : pm_CT mi_X10_allow [.ref 47, .int (nI h), .int (nI q), .int z] μ (fun v μ2 => v = some (.int (lr_b (lr_al g h (nI q)))) ∧ lr_fm (lr_chg (pm_set μ 47 7 0) 48) μ2 ∧ μ2.1 48 = upd g (39 + 4 * h) (if z = 0 then g (39 + 4 * h) &&& ((1 <<< (nI q &&& 31)) ^^^ (-1)) else g (39 + 4 * h) ||| (1 <<< (nI q &&& 31)))) pm_NX := by
  refine pm_CT_of (lo := [some (.ref 47), some (.int (nI h)), some (.int (nI q)), some (.int z), none, none]) (by decide +kernel) rfl rfl (by intro v hv; simp at hv; rcases hv with rfl | rfl | rfl | rfl <;> rfl) (Nat.le_of_ble_eq_true rfl) rfl ?_
  have hm1 := lr_mh hG; have hm2 := lr_mw hG; have hm3 := lr_mp hG; have hm4 := lr_mr hG; have hm5 := lr_ma hG; have hm6 := lr_ml hG
  have hbit : ((g (39 + 4 * h) >>> (nI q &&& 31)) &&& 1 = 1) ↔ lr_al g h (nI q) = true := by rw [lr_al_bit g h (by omega)]; exact lr_bit1 _ (by omega)
  refine pm_bl [(.aload_n 0, 1, 0, 0, 0), (.aload_n 0, 1, 0, 0, 0), (.iload_n 1, 1, 1, 0, 0)] (pc1 := 3) (lo1 := [some (.ref 47), some (.int (nI h)), some (.int (nI q)), some (.int z), none, none]) (st1 := [.int (nI h), .ref 47, .ref 47]) (μ1 := μ) (vc := True) rfl (by decide +kernel) rfl trivial ?_
  refine pm_callV2 mi_X10_isPerson (ix := 102) (b := 47) (ci := 10) (kc2 := 0) (ks2 := 0) (As := [.int (nI h)]) (rest := [.ref 47]) (c_X10_isPerson (nI h) μ hM hG) cal_X10_isPerson lk10_102 (by decide +kernel) rfl (by decide +kernel) rfl rfl rfl rfl (Nat.le_of_ble_eq_true rfl) (by decide) (by decide) (fun _ _ h9 => h9.elim) ?_
  rintro _ _ ⟨rfl, h9⟩; rw [h9]; clear h9
  show pm_V _ _ _ _ 6 _ [.int (lr_b (lr_be (nI h) (nI (lr_n g 35)))), .ref 47] _
  refine pm_ifb_eq (off := 11) 17 (by decide +kernel) (by decide) (fun (h9 : (lr_be (nI h) (nI (lr_n g 35))) = false) => absurd (h9.symm.trans (lr_be_1 hh (by omega))) (by decide)) (fun (h6 : (lr_be (nI h) (nI (lr_n g 35))) = true) => ?_)
  refine pm_bl [(.aload_n 0, 1, 0, 0, 0), (.iload_n 2, 1, 2, 0, 0)] (pc1 := 11) (lo1 := [some (.ref 47), some (.int (nI h)), some (.int (nI q)), some (.int z), none, none]) (st1 := [.int (nI q), .ref 47, .ref 47]) (μ1 := μ) (vc := True) rfl (by decide +kernel) rfl trivial ?_
  refine pm_callV2 mi_X10_isPerson (ix := 102) (b := 47) (ci := 10) (kc2 := 0) (ks2 := 0) (As := [.int (nI q)]) (rest := [.ref 47]) (c_X10_isPerson (nI q) μ hM hG) cal_X10_isPerson lk10_102 (by decide +kernel) rfl (by decide +kernel) rfl rfl rfl rfl (Nat.le_of_ble_eq_true rfl) (by decide) (by decide) (fun _ _ h9 => h9.elim) ?_
  rintro _ _ ⟨rfl, h9⟩; rw [h9]; clear h9
  show pm_V _ _ _ _ 14 _ [.int (lr_b (lr_be (nI q) (nI (lr_n g 35)))), .ref 47] _
  refine pm_ifb_ne (off := 7) 21 (by decide +kernel) (by decide) (fun (h14 : (lr_be (nI q) (nI (lr_n g 35))) = true) => ?_) (fun (h9 : (lr_be (nI q) (nI (lr_n g 35))) = false) => absurd (h9.symm.trans (lr_be_1 hq2 (by omega))) (by decide))
  refine pm_bl [(.iload_n 1, 1, 1, 0, 0), (.iload_n 2, 1, 2, 0, 0)] (pc1 := 23) (lo1 := [some (.ref 47), some (.int (nI h)), some (.int (nI q)), some (.int z), none, none]) (st1 := [.int (nI q), .int (nI h), .ref 47]) (μ1 := μ) (vc := True) rfl (by decide +kernel) rfl trivial ?_
  refine pm_icmp_ne (off := 7) 30 (by decide +kernel) (by decide) (fun (h23 : ¬ (nI h) = (nI q)) => ?_) (fun (h9 : (nI h) = (nI q)) => absurd ((nI_eq (by omega) (by omega)).mp h9) hne)
  refine pm_bl [(.iconst 0, 1, 0, 0, 0), (.putfield 35, 3, 10, 7, 0), (.aload_n 0, 1, 0, 0, 0), (.getfield 35, 3, 10, 7, 0)] (pc1 := 38) (lo1 := [some (.ref 47), some (.int (nI h)), some (.int (nI q)), some (.int z), none, none]) (st1 := [.int ((pm_set μ 47 7 0).1 47 7)]) (μ1 := pm_set μ 47 7 0) (vc := True) rfl (by decide +kernel) rfl trivial ?_
  rw [show (pm_set μ 47 7 0).1 47 7 = 0 from by rw [pm_set_hit] <;> omega]
  refine pm_if_le (off := 5) 43 (by decide +kernel) (by decide) (fun _ => ?_) (fun h9 => absurd h9 (by decide))
  refine pm_bl [(.aload_n 0, 1, 0, 0, 0), (.aload_n 0, 1, 0, 0, 0), (.getfield 7, 3, 10, 0, 0)] (pc1 := 48) (lo1 := [some (.ref 47), some (.int (nI h)), some (.int (nI q)), some (.int z), none, none]) (st1 := [.ref 48, .ref 47]) (μ1 := pm_set μ 47 7 0) (vc := True) rfl (by decide +kernel) rfl trivial ?_
  refine pm_callV2 mi_X10_changes (ix := 66) (b := 47) (ci := 10) (kc2 := 0) (ks2 := 0) (As := [.ref 48]) (rest := []) (c_X10_changes_48 (c := c) (pm_set μ 47 7 0) (by first | exact hp | (rw [pm_set_miss (Or.inr (by decide))]; exact hp)) hc8) cal_X10_changes lk10_66 (by decide +kernel) rfl (by decide +kernel) rfl rfl rfl rfl (Nat.le_of_ble_eq_true rfl) (by decide) (by decide) (fun _ _ h9 => h9.elim) ?_
  rintro _ μ1 ⟨rfl, hq⟩
  have hM1 : μ1.1 48 = g := by rw [hq, lr_chg_off (by decide) (by decide)]; first | exact hM | (rw [pm_set_off (by decide)]; exact hM)
  show pm_V _ _ _ _ 51 _ [] _
  refine pm_bl [(.bipush 36, 2, 0, 0, 36), (.iconst 4, 1, 0, 0, 4), (.iload_n 1, 1, 1, 0, 0), (.imul, 1, 0, 0, 0), (.iadd, 1, 0, 0, 0), (.iconst 3, 1, 0, 0, 3), (.iadd, 1, 0, 0, 0), (.istore 4, 2, 4, 0, 0), (.aload_n 0, 1, 0, 0, 0), (.getfield 7, 3, 10, 0, 0), (.iload 4, 2, 4, 0, 0)] (pc1 := 67) (lo1 := [some (.ref 47), some (.int (nI h)), some (.int (nI q)), some (.int z), some (.int ((36 + (4 * (nI h))) + 3)), none]) (st1 := [.int ((36 + (4 * (nI h))) + 3), .ref 48]) (μ1 := μ1) (vc := True) rfl (by decide +kernel) rfl trivial ?_
  rw [(show ((36 + (4 * (nI h))) + 3 : Int32) = nI ((36 + (4 * (h))) + 3) from by simp only [nI, Int32.ofNat_add, Int32.ofNat_mul]; rfl).trans (congrArg nI (show (36 + (4 * (h))) + 3 = 39 + 4 * h from by omega))]
  refine pm_bl [(.iaload, 1, 0, 0, 0)] (pc1 := 68) (lo1 := [some (.ref 47), some (.int (nI h)), some (.int (nI q)), some (.int z), some (.int (nI (39 + 4 * h))), none]) (st1 := [.int (μ1.1 48 (nI (39 + 4 * h)).toNatClampNeg)]) (μ1 := μ1) (vc := vp_in (nI (39 + 4 * h)) 620 ∧ True) rfl (by decide +kernel) rfl ⟨(vp_in_nI (by omega) (by omega)), trivial⟩ ?_
  first | rw [nI_clamp (n := 39 + 4 * h) (by omega), hM1] | rw [hM1]
  refine pm_bl [(.iload_n 2, 1, 2, 0, 0), (.ishr, 1, 0, 0, 0), (.iconst 1, 1, 0, 0, 1), (.iand, 1, 0, 0, 0), (.iconst 1, 1, 0, 0, 1)] (pc1 := 73) (lo1 := [some (.ref 47), some (.int (nI h)), some (.int (nI q)), some (.int z), some (.int (nI (39 + 4 * h))), none]) (st1 := [.int 1, .int (((g (39 + 4 * h)) >>> ((nI q) &&& 31)) &&& 1)]) (μ1 := μ1) (vc := True) rfl (by decide +kernel) rfl trivial ?_
  refine pm_icmp_ne (off := 7) 80 (by decide +kernel) (by decide) (fun (h73 : ¬ (((g (39 + 4 * h)) >>> ((nI q) &&& 31)) &&& 1) = 1) => ?_) (fun (h73 : (((g (39 + 4 * h)) >>> ((nI q) &&& 31)) &&& 1) = 1) => ?_)
  · refine pm_bl [(.iconst 0, 1, 0, 0, 0), (.istore 5, 2, 5, 0, 0), (.aload_n 0, 1, 0, 0, 0), (.getfield 7, 3, 10, 0, 0), (.iload 4, 2, 4, 0, 0), (.iload_n 3, 1, 3, 0, 0)] (pc1 := 90) (lo1 := [some (.ref 47), some (.int (nI h)), some (.int (nI q)), some (.int z), some (.int (nI (39 + 4 * h))), some (.int 0)]) (st1 := [.int z, .int (nI (39 + 4 * h)), .ref 48]) (μ1 := μ1) (vc := True) rfl (by decide +kernel) rfl trivial ?_
    refine pm_if_eq (off := 17) 107 (by decide +kernel) (by decide) (fun (h90 : z = 0) => ?_) (fun (h90 : ¬ (z = 0)) => ?_)
    · refine pm_bl [(.aload_n 0, 1, 0, 0, 0), (.getfield 7, 3, 10, 0, 0), (.iload 4, 2, 4, 0, 0), (.iaload, 1, 0, 0, 0)] (pc1 := 114) (lo1 := [some (.ref 47), some (.int (nI h)), some (.int (nI q)), some (.int z), some (.int (nI (39 + 4 * h))), some (.int 0)]) (st1 := [.int (μ1.1 48 (nI (39 + 4 * h)).toNatClampNeg), .int (nI (39 + 4 * h)), .ref 48]) (μ1 := μ1) (vc := vp_in (nI (39 + 4 * h)) 620 ∧ True) rfl (by decide +kernel) rfl ⟨(vp_in_nI (by omega) (by omega)), trivial⟩ ?_
      first | rw [nI_clamp (n := 39 + 4 * h) (by omega), hM1] | rw [hM1]
      refine pm_bl [(.iconst 1, 1, 0, 0, 1), (.iload_n 2, 1, 2, 0, 0), (.ishl, 1, 0, 0, 0), (.iconst (-1), 1, 0, 0, (-1)), (.ixor, 1, 0, 0, 0), (.iand, 1, 0, 0, 0), (.iastore, 1, 0, 0, 0), (.iload 5, 2, 5, 0, 0)] (pc1 := 123) (lo1 := [some (.ref 47), some (.int (nI h)), some (.int (nI q)), some (.int z), some (.int (nI (39 + 4 * h))), some (.int 0)]) (st1 := [.int 0]) (μ1 := pm_set μ1 48 ((nI (39 + 4 * h)).toNatClampNeg) ((g (39 + 4 * h)) &&& ((1 <<< ((nI q) &&& 31)) ^^^ (-1)))) (vc := vp_in (nI (39 + 4 * h)) 620 ∧ True) rfl (by decide +kernel) rfl ⟨(vp_in_nI (by omega) (by omega)), trivial⟩ ?_
      try rw [nI_clamp (n := (39 + 4 * h)) (by omega)]
      exact pm_iret (ty := .boolean) rfl (rfl) (by decide) (by decide) (by decide +kernel) (⟨by first | (rw [hbit.mp h73]; rfl) | (rw [show lr_al g h (nI q) = false from by rw [Bool.eq_false_iff]; exact fun e => h73 (hbit.mpr e)]; rfl), by rw [← hq]; exact lr_fm.set lr_fm.rf, by rw [pm_set_at, hM1]; first | (rw [if_pos (by assumption)]; done) | (rw [if_neg (by assumption)]; done)⟩)
    · refine pm_bl [(.aload_n 0, 1, 0, 0, 0), (.getfield 7, 3, 10, 0, 0), (.iload 4, 2, 4, 0, 0), (.iaload, 1, 0, 0, 0)] (pc1 := 100) (lo1 := [some (.ref 47), some (.int (nI h)), some (.int (nI q)), some (.int z), some (.int (nI (39 + 4 * h))), some (.int 0)]) (st1 := [.int (μ1.1 48 (nI (39 + 4 * h)).toNatClampNeg), .int (nI (39 + 4 * h)), .ref 48]) (μ1 := μ1) (vc := vp_in (nI (39 + 4 * h)) 620 ∧ True) rfl (by decide +kernel) rfl ⟨(vp_in_nI (by omega) (by omega)), trivial⟩ ?_
      first | rw [nI_clamp (n := 39 + 4 * h) (by omega), hM1] | rw [hM1]
      refine pm_bl [(.iconst 1, 1, 0, 0, 1), (.iload_n 2, 1, 2, 0, 0), (.ishl, 1, 0, 0, 0), (.ior, 1, 0, 0, 0), (.goto 16, 3, 120, 0, 0), (.iastore, 1, 0, 0, 0), (.iload 5, 2, 5, 0, 0)] (pc1 := 123) (lo1 := [some (.ref 47), some (.int (nI h)), some (.int (nI q)), some (.int z), some (.int (nI (39 + 4 * h))), some (.int 0)]) (st1 := [.int 0]) (μ1 := pm_set μ1 48 ((nI (39 + 4 * h)).toNatClampNeg) ((g (39 + 4 * h)) ||| (1 <<< ((nI q) &&& 31)))) (vc := vp_in (nI (39 + 4 * h)) 620 ∧ True) rfl (by decide +kernel) rfl ⟨(vp_in_nI (by omega) (by omega)), trivial⟩ ?_
      try rw [nI_clamp (n := (39 + 4 * h)) (by omega)]
      exact pm_iret (ty := .boolean) rfl (rfl) (by decide) (by decide) (by decide +kernel) (⟨by first | (rw [hbit.mp h73]; rfl) | (rw [show lr_al g h (nI q) = false from by rw [Bool.eq_false_iff]; exact fun e => h73 (hbit.mpr e)]; rfl), by rw [← hq]; exact lr_fm.set lr_fm.rf, by rw [pm_set_at, hM1]; first | (rw [if_pos (by assumption)]; done) | (rw [if_neg (by assumption)]; done)⟩)
  · refine pm_bl [(.iconst 1, 1, 0, 0, 1), (.goto 4, 3, 81, 0, 0), (.istore 5, 2, 5, 0, 0), (.aload_n 0, 1, 0, 0, 0), (.getfield 7, 3, 10, 0, 0), (.iload 4, 2, 4, 0, 0), (.iload_n 3, 1, 3, 0, 0)] (pc1 := 90) (lo1 := [some (.ref 47), some (.int (nI h)), some (.int (nI q)), some (.int z), some (.int (nI (39 + 4 * h))), some (.int 1)]) (st1 := [.int z, .int (nI (39 + 4 * h)), .ref 48]) (μ1 := μ1) (vc := True) rfl (by decide +kernel) rfl trivial ?_
    refine pm_if_eq (off := 17) 107 (by decide +kernel) (by decide) (fun (h90 : z = 0) => ?_) (fun (h90 : ¬ (z = 0)) => ?_)
    · refine pm_bl [(.aload_n 0, 1, 0, 0, 0), (.getfield 7, 3, 10, 0, 0), (.iload 4, 2, 4, 0, 0), (.iaload, 1, 0, 0, 0)] (pc1 := 114) (lo1 := [some (.ref 47), some (.int (nI h)), some (.int (nI q)), some (.int z), some (.int (nI (39 + 4 * h))), some (.int 1)]) (st1 := [.int (μ1.1 48 (nI (39 + 4 * h)).toNatClampNeg), .int (nI (39 + 4 * h)), .ref 48]) (μ1 := μ1) (vc := vp_in (nI (39 + 4 * h)) 620 ∧ True) rfl (by decide +kernel) rfl ⟨(vp_in_nI (by omega) (by omega)), trivial⟩ ?_
      first | rw [nI_clamp (n := 39 + 4 * h) (by omega), hM1] | rw [hM1]
      refine pm_bl [(.iconst 1, 1, 0, 0, 1), (.iload_n 2, 1, 2, 0, 0), (.ishl, 1, 0, 0, 0), (.iconst (-1), 1, 0, 0, (-1)), (.ixor, 1, 0, 0, 0), (.iand, 1, 0, 0, 0), (.iastore, 1, 0, 0, 0), (.iload 5, 2, 5, 0, 0)] (pc1 := 123) (lo1 := [some (.ref 47), some (.int (nI h)), some (.int (nI q)), some (.int z), some (.int (nI (39 + 4 * h))), some (.int 1)]) (st1 := [.int 1]) (μ1 := pm_set μ1 48 ((nI (39 + 4 * h)).toNatClampNeg) ((g (39 + 4 * h)) &&& ((1 <<< ((nI q) &&& 31)) ^^^ (-1)))) (vc := vp_in (nI (39 + 4 * h)) 620 ∧ True) rfl (by decide +kernel) rfl ⟨(vp_in_nI (by omega) (by omega)), trivial⟩ ?_
      try rw [nI_clamp (n := (39 + 4 * h)) (by omega)]
      exact pm_iret (ty := .boolean) rfl (rfl) (by decide) (by decide) (by decide +kernel) (⟨by first | (rw [hbit.mp h73]; rfl) | (rw [show lr_al g h (nI q) = false from by rw [Bool.eq_false_iff]; exact fun e => h73 (hbit.mpr e)]; rfl), by rw [← hq]; exact lr_fm.set lr_fm.rf, by rw [pm_set_at, hM1]; first | (rw [if_pos (by assumption)]; done) | (rw [if_neg (by assumption)]; done)⟩)
    · refine pm_bl [(.aload_n 0, 1, 0, 0, 0), (.getfield 7, 3, 10, 0, 0), (.iload 4, 2, 4, 0, 0), (.iaload, 1, 0, 0, 0)] (pc1 := 100) (lo1 := [some (.ref 47), some (.int (nI h)), some (.int (nI q)), some (.int z), some (.int (nI (39 + 4 * h))), some (.int 1)]) (st1 := [.int (μ1.1 48 (nI (39 + 4 * h)).toNatClampNeg), .int (nI (39 + 4 * h)), .ref 48]) (μ1 := μ1) (vc := vp_in (nI (39 + 4 * h)) 620 ∧ True) rfl (by decide +kernel) rfl ⟨(vp_in_nI (by omega) (by omega)), trivial⟩ ?_
      first | rw [nI_clamp (n := 39 + 4 * h) (by omega), hM1] | rw [hM1]
      refine pm_bl [(.iconst 1, 1, 0, 0, 1), (.iload_n 2, 1, 2, 0, 0), (.ishl, 1, 0, 0, 0), (.ior, 1, 0, 0, 0), (.goto 16, 3, 120, 0, 0), (.iastore, 1, 0, 0, 0), (.iload 5, 2, 5, 0, 0)] (pc1 := 123) (lo1 := [some (.ref 47), some (.int (nI h)), some (.int (nI q)), some (.int z), some (.int (nI (39 + 4 * h))), some (.int 1)]) (st1 := [.int 1]) (μ1 := pm_set μ1 48 ((nI (39 + 4 * h)).toNatClampNeg) ((g (39 + 4 * h)) ||| (1 <<< ((nI q) &&& 31)))) (vc := vp_in (nI (39 + 4 * h)) 620 ∧ True) rfl (by decide +kernel) rfl ⟨(vp_in_nI (by omega) (by omega)), trivial⟩ ?_
      try rw [nI_clamp (n := (39 + 4 * h)) (by omega)]
      exact pm_iret (ty := .boolean) rfl (rfl) (by decide) (by decide) (by decide +kernel) (⟨by first | (rw [hbit.mp h73]; rfl) | (rw [show lr_al g h (nI q) = false from by rw [Bool.eq_false_iff]; exact fun e => h73 (hbit.mpr e)]; rfl), by rw [← hq]; exact lr_fm.set lr_fm.rf, by rw [pm_set_at, hM1]; first | (rw [if_pos (by assumption)]; done) | (rw [if_neg (by assumption)]; done)⟩)
set_option maxHeartbeats 4000000 in
set_option maxRecDepth 100000 in
theorem c_X10_stopIndex_no2 {g : Nat → Int32} {h : Nat} (μ : pm_Mm) (hM : μ.1 48 = g) (hG : lr_G g) (hh : h < lr_n g 2) (hs : lr_sv g h = -1) : pm_CT mi_X10_stopIndex [.ref 47, .int (nI h)] μ (fun v μ2 => v = some (.int 0) ∧ μ2 = pm_set μ 47 7 2) pm_NX := by
  refine pm_CT_of (lo := [some (.ref 47), some (.int (nI h))]) (by decide +kernel) rfl rfl (by intro v hv; simp at hv; rcases hv with rfl | rfl <;> rfl) (Nat.le_of_ble_eq_true rfl) rfl ?_
  have hm1 := lr_mh hG; have hm2 := lr_mw hG; have hm3 := lr_mp hG; have hm4 := lr_mr hG; have hm5 := lr_ma hG; have hm6 := lr_ml hG
  refine pm_bl [(.aload_n 0, 1, 0, 0, 0), (.aload_n 0, 1, 0, 0, 0), (.iload_n 1, 1, 1, 0, 0)] (pc1 := 3) (lo1 := [some (.ref 47), some (.int (nI h))]) (st1 := [.int (nI h), .ref 47, .ref 47]) (μ1 := μ) (vc := True) rfl (by decide +kernel) rfl trivial ?_
  refine pm_callV2 mi_X10_isHouse (ix := 70) (b := 47) (ci := 10) (kc2 := 0) (ks2 := 0) (As := [.int (nI h)]) (rest := [.ref 47]) (c_X10_isHouse (nI h) μ hM hG) cal_X10_isHouse lk10_70 (by decide +kernel) rfl (by decide +kernel) rfl rfl rfl rfl (Nat.le_of_ble_eq_true rfl) (by decide) (by decide) (fun _ _ h9 => h9.elim) ?_
  rintro _ _ ⟨rfl, h9⟩; rw [h9]; clear h9
  show pm_V _ _ _ _ 6 _ [.int (lr_b (lr_be (nI h) (nI (lr_n g 2)))), .ref 47] _
  refine pm_ifb_ne (off := 7) 13 (by decide +kernel) (by decide) (fun (h6 : (lr_be (nI h) (nI (lr_n g 2))) = true) => ?_) (fun (h9 : (lr_be (nI h) (nI (lr_n g 2))) = false) => absurd (h9.symm.trans (lr_be_1 hh (by omega))) (by decide))
  refine pm_bl [(.aload_n 0, 1, 0, 0, 0), (.iload_n 1, 1, 1, 0, 0)] (pc1 := 15) (lo1 := [some (.ref 47), some (.int (nI h))]) (st1 := [.int (nI h), .ref 47, .ref 47]) (μ1 := μ) (vc := True) rfl (by decide +kernel) rfl trivial ?_
  refine pm_callV2 mi_X10_serving (ix := 78) (b := 47) (ci := 10) (kc2 := 0) (ks2 := 0) (As := [.int (nI h)]) (rest := [.ref 47]) (c_X10_serving (h := h) μ (by first | exact hM | (rw [pm_set_off (by decide)]; exact hM)) hG hh) cal_X10_serving lk10_78 (by decide +kernel) rfl (by decide +kernel) rfl rfl rfl rfl (Nat.le_of_ble_eq_true rfl) (by decide) (by decide) (fun _ _ h9 => h9.elim) ?_
  rintro _ _ ⟨rfl, h9⟩; rw [h9]; clear h9
  show pm_V _ _ _ _ 18 _ [.int (lr_sv g h), .ref 47] _
  refine pm_if_ge (off := 7) 25 (by decide +kernel) (by decide) (fun (h9 : 0 ≤ (lr_sv g h)) => absurd h9 (by rw [hs]; decide)) (fun (h18 : ¬ (0 ≤ (lr_sv g h))) => ?_)
  refine pm_bl [(.iconst 2, 1, 0, 0, 2), (.goto 4, 3, 26, 0, 0), (.putfield 35, 3, 10, 7, 0), (.aload_n 0, 1, 0, 0, 0), (.getfield 35, 3, 10, 7, 0)] (pc1 := 33) (lo1 := [some (.ref 47), some (.int (nI h))]) (st1 := [.int ((pm_set μ 47 7 2).1 47 7)]) (μ1 := pm_set μ 47 7 2) (vc := True) rfl (by decide +kernel) rfl trivial ?_
  rw [show (pm_set μ 47 7 2).1 47 7 = 2 from by rw [pm_set_hit] <;> omega]
  refine pm_if_le (off := 7) 40 (by decide +kernel) (by decide) (fun h9 => absurd h9 (by decide)) (fun _ => ?_)
  refine pm_bl [(.iconst 0, 1, 0, 0, 0), (.goto 8, 3, 45, 0, 0)] (pc1 := 45) (lo1 := [some (.ref 47), some (.int (nI h))]) (st1 := [.int 0]) (μ1 := pm_set μ 47 7 2) (vc := True) rfl (by decide +kernel) rfl trivial ?_
  exact pm_iret (ty := .int) rfl rfl (by decide) (by decide) (by decide +kernel) (⟨rfl, rfl⟩)
set_option maxHeartbeats 4000000 in
set_option maxRecDepth 100000 in
theorem c_X10_stopIndex {g : Nat → Int32} {h u : Nat} (μ : pm_Mm) (hM : μ.1 48 = g) (hG : lr_G g) (hh : h < lr_n g 2) (hu : u < lr_n g 116) (hs : lr_sv g h = nI u) : pm_CT mi_X10_stopIndex [.ref 47, .int (nI h)] μ (fun v μ2 => v = some (.int (lr_sp g h)) ∧ μ2 = pm_set μ 47 7 0) pm_NX := by
  refine pm_CT_of (lo := [some (.ref 47), some (.int (nI h))]) (by decide +kernel) rfl rfl (by intro v hv; simp at hv; rcases hv with rfl | rfl <;> rfl) (Nat.le_of_ble_eq_true rfl) rfl ?_
  have hm1 := lr_mh hG; have hm2 := lr_mw hG; have hm3 := lr_mp hG; have hm4 := lr_mr hG; have hm5 := lr_ma hG; have hm6 := lr_ml hG
  refine pm_bl [(.aload_n 0, 1, 0, 0, 0), (.aload_n 0, 1, 0, 0, 0), (.iload_n 1, 1, 1, 0, 0)] (pc1 := 3) (lo1 := [some (.ref 47), some (.int (nI h))]) (st1 := [.int (nI h), .ref 47, .ref 47]) (μ1 := μ) (vc := True) rfl (by decide +kernel) rfl trivial ?_
  refine pm_callV2 mi_X10_isHouse (ix := 70) (b := 47) (ci := 10) (kc2 := 0) (ks2 := 0) (As := [.int (nI h)]) (rest := [.ref 47]) (c_X10_isHouse (nI h) μ hM hG) cal_X10_isHouse lk10_70 (by decide +kernel) rfl (by decide +kernel) rfl rfl rfl rfl (Nat.le_of_ble_eq_true rfl) (by decide) (by decide) (fun _ _ h9 => h9.elim) ?_
  rintro _ _ ⟨rfl, h9⟩; rw [h9]; clear h9
  show pm_V _ _ _ _ 6 _ [.int (lr_b (lr_be (nI h) (nI (lr_n g 2)))), .ref 47] _
  refine pm_ifb_ne (off := 7) 13 (by decide +kernel) (by decide) (fun (h6 : (lr_be (nI h) (nI (lr_n g 2))) = true) => ?_) (fun (h9 : (lr_be (nI h) (nI (lr_n g 2))) = false) => absurd (h9.symm.trans (lr_be_1 hh (by omega))) (by decide))
  refine pm_bl [(.aload_n 0, 1, 0, 0, 0), (.iload_n 1, 1, 1, 0, 0)] (pc1 := 15) (lo1 := [some (.ref 47), some (.int (nI h))]) (st1 := [.int (nI h), .ref 47, .ref 47]) (μ1 := μ) (vc := True) rfl (by decide +kernel) rfl trivial ?_
  refine pm_callV2 mi_X10_serving (ix := 78) (b := 47) (ci := 10) (kc2 := 0) (ks2 := 0) (As := [.int (nI h)]) (rest := [.ref 47]) (c_X10_serving (h := h) μ (by first | exact hM | (rw [pm_set_off (by decide)]; exact hM)) hG hh) cal_X10_serving lk10_78 (by decide +kernel) rfl (by decide +kernel) rfl rfl rfl rfl (Nat.le_of_ble_eq_true rfl) (by decide) (by decide) (fun _ _ h9 => h9.elim) ?_
  rintro _ _ ⟨rfl, h9⟩; rw [h9]; clear h9
  show pm_V _ _ _ _ 18 _ [.int (lr_sv g h), .ref 47] _
  refine pm_if_ge (off := 7) 25 (by decide +kernel) (by decide) (fun (h18 : 0 ≤ (lr_sv g h)) => ?_) (fun (h9 : ¬ (0 ≤ (lr_sv g h))) => absurd (by rw [hs]; exact nI_pos' (by omega)) h9)
  refine pm_bl [(.iconst 0, 1, 0, 0, 0), (.putfield 35, 3, 10, 7, 0), (.aload_n 0, 1, 0, 0, 0), (.getfield 35, 3, 10, 7, 0)] (pc1 := 33) (lo1 := [some (.ref 47), some (.int (nI h))]) (st1 := [.int ((pm_set μ 47 7 0).1 47 7)]) (μ1 := pm_set μ 47 7 0) (vc := True) rfl (by decide +kernel) rfl trivial ?_
  rw [show (pm_set μ 47 7 0).1 47 7 = 0 from by rw [pm_set_hit] <;> omega]
  refine pm_if_le (off := 7) 40 (by decide +kernel) (by decide) (fun _ => ?_) (fun h9 => absurd h9 (by decide))
  refine pm_bl [(.aload_n 0, 1, 0, 0, 0), (.iload_n 1, 1, 1, 0, 0)] (pc1 := 42) (lo1 := [some (.ref 47), some (.int (nI h))]) (st1 := [.int (nI h), .ref 47]) (μ1 := pm_set μ 47 7 0) (vc := True) rfl (by decide +kernel) rfl trivial ?_
  refine pm_callV2 mi_X10_stopsAhead (ix := 84) (b := 47) (ci := 10) (kc2 := 0) (ks2 := 0) (As := [.int (nI h)]) (rest := []) (c_X10_stopsAhead (h := h) (u := u) (pm_set μ 47 7 0) (by first | exact hM | (rw [pm_set_off (by decide)]; exact hM)) hG hh hu hs) cal_X10_stopsAhead lk10_84 (by decide +kernel) rfl (by decide +kernel) rfl rfl rfl rfl (Nat.le_of_ble_eq_true rfl) (by decide) (by decide) (fun _ _ h9 => h9.elim) ?_
  rintro _ _ ⟨rfl, h9⟩; rw [h9]; clear h9
  show pm_V _ _ _ _ 45 _ [.int (lr_sp g h)] _
  exact pm_iret (ty := .int) rfl rfl (by decide) (by decide) (by decide +kernel) (⟨rfl, rfl⟩)
set_option maxHeartbeats 4000000 in
set_option maxRecDepth 100000 in
theorem c_X10_signer_no1 {g : Nat → Int32} {x : Int32} (y : Int32) (μ : pm_Mm) (hM : μ.1 48 = g) (hG : lr_G g) (hb : lr_be x (nI (lr_n g 35)) = false) : pm_CT mi_X10_signer [.ref 47, .int x, .int y] μ (fun v μ2 => v = some (.int 0) ∧ μ2 = pm_set μ 47 7 1) pm_NX := by
  refine pm_CT_of (lo := [some (.ref 47), some (.int x), some (.int y)]) (by decide +kernel) rfl rfl (by intro v hv; simp at hv; rcases hv with rfl | rfl | rfl <;> rfl) (Nat.le_of_ble_eq_true rfl) rfl ?_
  have hm1 := lr_mh hG; have hm2 := lr_mw hG; have hm3 := lr_mp hG; have hm4 := lr_mr hG; have hm5 := lr_ma hG; have hm6 := lr_ml hG
  refine pm_bl [(.aload_n 0, 1, 0, 0, 0), (.aload_n 0, 1, 0, 0, 0), (.iload_n 1, 1, 1, 0, 0)] (pc1 := 3) (lo1 := [some (.ref 47), some (.int x), some (.int y)]) (st1 := [.int x, .ref 47, .ref 47]) (μ1 := μ) (vc := True) rfl (by decide +kernel) rfl trivial ?_
  refine pm_callV2 mi_X10_isPerson (ix := 102) (b := 47) (ci := 10) (kc2 := 0) (ks2 := 0) (As := [.int x]) (rest := [.ref 47]) (c_X10_isPerson x μ hM hG) cal_X10_isPerson lk10_102 (by decide +kernel) rfl (by decide +kernel) rfl rfl rfl rfl (Nat.le_of_ble_eq_true rfl) (by decide) (by decide) (fun _ _ h9 => h9.elim) ?_
  rintro _ _ ⟨rfl, h9⟩; rw [h9]; clear h9
  show pm_V _ _ _ _ 6 _ [.int (lr_b (lr_be x (nI (lr_n g 35)))), .ref 47] _
  refine pm_ifb_ne (off := 7) 13 (by decide +kernel) (by decide) (fun (h9 : (lr_be x (nI (lr_n g 35))) = true) => absurd (hb.symm.trans h9) (by decide)) (fun (h6 : (lr_be x (nI (lr_n g 35))) = false) => ?_)
  refine pm_bl [(.iconst 1, 1, 0, 0, 1), (.goto 32, 3, 42, 0, 0), (.putfield 35, 3, 10, 7, 0), (.aload_n 0, 1, 0, 0, 0), (.getfield 35, 3, 10, 7, 0)] (pc1 := 49) (lo1 := [some (.ref 47), some (.int x), some (.int y)]) (st1 := [.int ((pm_set μ 47 7 1).1 47 7)]) (μ1 := pm_set μ 47 7 1) (vc := True) rfl (by decide +kernel) rfl trivial ?_
  rw [show (pm_set μ 47 7 1).1 47 7 = 1 from by rw [pm_set_hit] <;> omega]
  refine pm_if_le (off := 7) 56 (by decide +kernel) (by decide) (fun h9 => absurd h9 (by decide)) (fun _ => ?_)
  refine pm_bl [(.iconst 0, 1, 0, 0, 0), (.goto 9, 3, 62, 0, 0)] (pc1 := 62) (lo1 := [some (.ref 47), some (.int x), some (.int y)]) (st1 := [.int 0]) (μ1 := pm_set μ 47 7 1) (vc := True) rfl (by decide +kernel) rfl trivial ?_
  exact pm_iret (ty := .int) rfl rfl (by decide) (by decide) (by decide +kernel) (⟨rfl, rfl⟩)
set_option maxHeartbeats 4000000 in
set_option maxRecDepth 100000 in
theorem c_X10_signer_no2 {g : Nat → Int32} {h : Nat} {y : Int32} (μ : pm_Mm) (hM : μ.1 48 = g) (hG : lr_G g) (hh : h < lr_n g 35) (hl : lr_in y 0 365 = false) : pm_CT mi_X10_signer [.ref 47, .int (nI h), .int y] μ (fun v μ2 => v = some (.int 0) ∧ μ2 = pm_set μ 47 7 2) pm_NX := by
  refine pm_CT_of (lo := [some (.ref 47), some (.int (nI h)), some (.int y)]) (by decide +kernel) rfl rfl (by intro v hv; simp at hv; rcases hv with rfl | rfl | rfl <;> rfl) (Nat.le_of_ble_eq_true rfl) rfl ?_
  have hm1 := lr_mh hG; have hm2 := lr_mw hG; have hm3 := lr_mp hG; have hm4 := lr_mr hG; have hm5 := lr_ma hG; have hm6 := lr_ml hG
  refine pm_bl [(.aload_n 0, 1, 0, 0, 0), (.aload_n 0, 1, 0, 0, 0), (.iload_n 1, 1, 1, 0, 0)] (pc1 := 3) (lo1 := [some (.ref 47), some (.int (nI h)), some (.int y)]) (st1 := [.int (nI h), .ref 47, .ref 47]) (μ1 := μ) (vc := True) rfl (by decide +kernel) rfl trivial ?_
  refine pm_callV2 mi_X10_isPerson (ix := 102) (b := 47) (ci := 10) (kc2 := 0) (ks2 := 0) (As := [.int (nI h)]) (rest := [.ref 47]) (c_X10_isPerson (nI h) μ hM hG) cal_X10_isPerson lk10_102 (by decide +kernel) rfl (by decide +kernel) rfl rfl rfl rfl (Nat.le_of_ble_eq_true rfl) (by decide) (by decide) (fun _ _ h9 => h9.elim) ?_
  rintro _ _ ⟨rfl, h9⟩; rw [h9]; clear h9
  show pm_V _ _ _ _ 6 _ [.int (lr_b (lr_be (nI h) (nI (lr_n g 35)))), .ref 47] _
  refine pm_ifb_ne (off := 7) 13 (by decide +kernel) (by decide) (fun (h6 : (lr_be (nI h) (nI (lr_n g 35))) = true) => ?_) (fun (h9 : (lr_be (nI h) (nI (lr_n g 35))) = false) => absurd (h9.symm.trans (lr_be_1 hh (by omega))) (by decide))
  refine pm_bl [(.iload_n 2, 1, 2, 0, 0), (.iconst 0, 1, 0, 0, 0), (.sipush 365, 3, 0, 0, 365)] (pc1 := 18) (lo1 := [some (.ref 47), some (.int (nI h)), some (.int y)]) (st1 := [.int 365, .int 0, .int y, .ref 47]) (μ1 := μ) (vc := True) rfl (by decide +kernel) rfl trivial ?_
  refine pm_callS2 mi_X10_in (ix := 45) (kc2 := 0) (ks2 := 0) (As := [.int y, .int 0, .int 365]) (rest := [.ref 47]) (c_X10_in y 0 365 μ) cal_X10_in lk10_45 (by decide +kernel) rfl (by decide +kernel) rfl rfl (Nat.le_of_ble_eq_true rfl) (by decide) (by decide) (fun _ _ h9 => h9.elim) ?_
  rintro _ _ ⟨rfl, h9⟩; rw [h9]; clear h9
  show pm_V _ _ _ _ 21 _ [.int (lr_b (lr_in y 0 365)), .ref 47] _
  refine pm_ifb_ne (off := 7) 28 (by decide +kernel) (by decide) (fun (h9 : (lr_in y 0 365) = true) => absurd (hl.symm.trans h9) (by decide)) (fun (h21 : (lr_in y 0 365) = false) => ?_)
  refine pm_bl [(.iconst 2, 1, 0, 0, 2), (.goto 17, 3, 42, 0, 0), (.putfield 35, 3, 10, 7, 0), (.aload_n 0, 1, 0, 0, 0), (.getfield 35, 3, 10, 7, 0)] (pc1 := 49) (lo1 := [some (.ref 47), some (.int (nI h)), some (.int y)]) (st1 := [.int ((pm_set μ 47 7 2).1 47 7)]) (μ1 := pm_set μ 47 7 2) (vc := True) rfl (by decide +kernel) rfl trivial ?_
  rw [show (pm_set μ 47 7 2).1 47 7 = 2 from by rw [pm_set_hit] <;> omega]
  refine pm_if_le (off := 7) 56 (by decide +kernel) (by decide) (fun h9 => absurd h9 (by decide)) (fun _ => ?_)
  refine pm_bl [(.iconst 0, 1, 0, 0, 0), (.goto 9, 3, 62, 0, 0)] (pc1 := 62) (lo1 := [some (.ref 47), some (.int (nI h)), some (.int y)]) (st1 := [.int 0]) (μ1 := pm_set μ 47 7 2) (vc := True) rfl (by decide +kernel) rfl trivial ?_
  exact pm_iret (ty := .int) rfl rfl (by decide) (by decide) (by decide +kernel) (⟨rfl, rfl⟩)
theorem lr_in_d {dy : Int32} {d : Nat} (hdy : dy = nI d) (hd : d ≤ 365) : lr_in dy 0 365 = true := by
  have h1 : ¬ nI d < 0 := nI_pos (by omega)
  have h2 : ¬ (365 : Int32) < nI d := nI_nlt (a := 365) hd (by decide)
  rw [hdy]; unfold lr_in; simp [h1, h2]
set_option maxHeartbeats 4000000 in
set_option maxRecDepth 100000 in
theorem c_X10_signer_no3 {g : Nat → Int32} {h d : Nat} {dy : Int32} (μ : pm_Mm) (hM : μ.1 48 = g) (hG : lr_G g) (hh : h < lr_n g 35) (hX : lr_X g) (hdy : dy = nI d) (hd : d ≤ 365) (hs : lr_sg g h dy < 0) : pm_CT mi_X10_signer [.ref 47, .int (nI h), .int dy] μ (fun v μ2 => v = some (.int 0) ∧ μ2 = pm_set μ 47 7 3) pm_NX := by
  refine pm_CT_of (lo := [some (.ref 47), some (.int (nI h)), some (.int dy)]) (by decide +kernel) rfl rfl (by intro v hv; simp at hv; rcases hv with rfl | rfl | rfl <;> rfl) (Nat.le_of_ble_eq_true rfl) rfl ?_
  have hm1 := lr_mh hG; have hm2 := lr_mw hG; have hm3 := lr_mp hG; have hm4 := lr_mr hG; have hm5 := lr_ma hG; have hm6 := lr_ml hG
  refine pm_bl [(.aload_n 0, 1, 0, 0, 0), (.aload_n 0, 1, 0, 0, 0), (.iload_n 1, 1, 1, 0, 0)] (pc1 := 3) (lo1 := [some (.ref 47), some (.int (nI h)), some (.int dy)]) (st1 := [.int (nI h), .ref 47, .ref 47]) (μ1 := μ) (vc := True) rfl (by decide +kernel) rfl trivial ?_
  refine pm_callV2 mi_X10_isPerson (ix := 102) (b := 47) (ci := 10) (kc2 := 0) (ks2 := 0) (As := [.int (nI h)]) (rest := [.ref 47]) (c_X10_isPerson (nI h) μ hM hG) cal_X10_isPerson lk10_102 (by decide +kernel) rfl (by decide +kernel) rfl rfl rfl rfl (Nat.le_of_ble_eq_true rfl) (by decide) (by decide) (fun _ _ h9 => h9.elim) ?_
  rintro _ _ ⟨rfl, h9⟩; rw [h9]; clear h9
  show pm_V _ _ _ _ 6 _ [.int (lr_b (lr_be (nI h) (nI (lr_n g 35)))), .ref 47] _
  refine pm_ifb_ne (off := 7) 13 (by decide +kernel) (by decide) (fun (h6 : (lr_be (nI h) (nI (lr_n g 35))) = true) => ?_) (fun (h9 : (lr_be (nI h) (nI (lr_n g 35))) = false) => absurd (h9.symm.trans (lr_be_1 hh (by omega))) (by decide))
  refine pm_bl [(.iload_n 2, 1, 2, 0, 0), (.iconst 0, 1, 0, 0, 0), (.sipush 365, 3, 0, 0, 365)] (pc1 := 18) (lo1 := [some (.ref 47), some (.int (nI h)), some (.int dy)]) (st1 := [.int 365, .int 0, .int dy, .ref 47]) (μ1 := μ) (vc := True) rfl (by decide +kernel) rfl trivial ?_
  refine pm_callS2 mi_X10_in (ix := 45) (kc2 := 0) (ks2 := 0) (As := [.int dy, .int 0, .int 365]) (rest := [.ref 47]) (c_X10_in dy 0 365 μ) cal_X10_in lk10_45 (by decide +kernel) rfl (by decide +kernel) rfl rfl (Nat.le_of_ble_eq_true rfl) (by decide) (by decide) (fun _ _ h9 => h9.elim) ?_
  rintro _ _ ⟨rfl, h9⟩; rw [h9]; clear h9
  show pm_V _ _ _ _ 21 _ [.int (lr_b (lr_in dy 0 365)), .ref 47] _
  refine pm_ifb_ne (off := 7) 28 (by decide +kernel) (by decide) (fun (h21 : (lr_in dy 0 365) = true) => ?_) (fun (h9 : (lr_in dy 0 365) = false) => absurd (h9.symm.trans (lr_in_d hdy hd)) (by decide))
  refine pm_bl [(.aload_n 0, 1, 0, 0, 0), (.iload_n 1, 1, 1, 0, 0), (.iload_n 2, 1, 2, 0, 0)] (pc1 := 31) (lo1 := [some (.ref 47), some (.int (nI h)), some (.int dy)]) (st1 := [.int dy, .int (nI h), .ref 47, .ref 47]) (μ1 := μ) (vc := True) rfl (by decide +kernel) rfl trivial ?_
  refine pm_callV2 mi_X10_signs (ix := 124) (b := 47) (ci := 10) (kc2 := 0) (ks2 := 0) (As := [.int (nI h), .int dy]) (rest := [.ref 47]) (c_X10_signs (p := h) (dy := dy) (d := d) μ (by first | exact hM | (rw [pm_set_off (by decide)]; exact hM)) hG hX hdy hd hh) cal_X10_signs lk10_124 (by decide +kernel) rfl (by decide +kernel) rfl rfl rfl rfl (Nat.le_of_ble_eq_true rfl) (by decide) (by decide) (fun _ _ h9 => h9.elim) ?_
  rintro _ _ ⟨rfl, h9⟩; rw [h9]; clear h9
  show pm_V _ _ _ _ 34 _ [.int (lr_sg g h dy), .ref 47] _
  refine pm_if_ge (off := 7) 41 (by decide +kernel) (by decide) (fun (h9 : 0 ≤ (lr_sg g h dy)) => absurd hs (Int32.not_lt.mpr h9)) (fun (h34 : ¬ (0 ≤ (lr_sg g h dy))) => ?_)
  refine pm_bl [(.iconst 3, 1, 0, 0, 3), (.goto 4, 3, 42, 0, 0), (.putfield 35, 3, 10, 7, 0), (.aload_n 0, 1, 0, 0, 0), (.getfield 35, 3, 10, 7, 0)] (pc1 := 49) (lo1 := [some (.ref 47), some (.int (nI h)), some (.int dy)]) (st1 := [.int ((pm_set μ 47 7 3).1 47 7)]) (μ1 := pm_set μ 47 7 3) (vc := True) rfl (by decide +kernel) rfl trivial ?_
  rw [show (pm_set μ 47 7 3).1 47 7 = 3 from by rw [pm_set_hit] <;> omega]
  refine pm_if_le (off := 7) 56 (by decide +kernel) (by decide) (fun h9 => absurd h9 (by decide)) (fun _ => ?_)
  refine pm_bl [(.iconst 0, 1, 0, 0, 0), (.goto 9, 3, 62, 0, 0)] (pc1 := 62) (lo1 := [some (.ref 47), some (.int (nI h)), some (.int dy)]) (st1 := [.int 0]) (μ1 := pm_set μ 47 7 3) (vc := True) rfl (by decide +kernel) rfl trivial ?_
  exact pm_iret (ty := .int) rfl rfl (by decide) (by decide) (by decide +kernel) (⟨rfl, rfl⟩)
set_option maxHeartbeats 4000000 in
set_option maxRecDepth 100000 in
theorem c_X10_signer {g : Nat → Int32} {h d : Nat} {dy : Int32} (μ : pm_Mm) (hM : μ.1 48 = g) (hG : lr_G g) (hh : h < lr_n g 35) (hX : lr_X g) (hdy : dy = nI d) (hd : d ≤ 365) (hs : 0 ≤ lr_sg g h dy) : pm_CT mi_X10_signer [.ref 47, .int (nI h), .int dy] μ (fun v μ2 => v = some (.int (lr_sg g h dy)) ∧ μ2 = pm_set μ 47 7 0) pm_NX := by
  refine pm_CT_of (lo := [some (.ref 47), some (.int (nI h)), some (.int dy)]) (by decide +kernel) rfl rfl (by intro v hv; simp at hv; rcases hv with rfl | rfl | rfl <;> rfl) (Nat.le_of_ble_eq_true rfl) rfl ?_
  have hm1 := lr_mh hG; have hm2 := lr_mw hG; have hm3 := lr_mp hG; have hm4 := lr_mr hG; have hm5 := lr_ma hG; have hm6 := lr_ml hG
  refine pm_bl [(.aload_n 0, 1, 0, 0, 0), (.aload_n 0, 1, 0, 0, 0), (.iload_n 1, 1, 1, 0, 0)] (pc1 := 3) (lo1 := [some (.ref 47), some (.int (nI h)), some (.int dy)]) (st1 := [.int (nI h), .ref 47, .ref 47]) (μ1 := μ) (vc := True) rfl (by decide +kernel) rfl trivial ?_
  refine pm_callV2 mi_X10_isPerson (ix := 102) (b := 47) (ci := 10) (kc2 := 0) (ks2 := 0) (As := [.int (nI h)]) (rest := [.ref 47]) (c_X10_isPerson (nI h) μ hM hG) cal_X10_isPerson lk10_102 (by decide +kernel) rfl (by decide +kernel) rfl rfl rfl rfl (Nat.le_of_ble_eq_true rfl) (by decide) (by decide) (fun _ _ h9 => h9.elim) ?_
  rintro _ _ ⟨rfl, h9⟩; rw [h9]; clear h9
  show pm_V _ _ _ _ 6 _ [.int (lr_b (lr_be (nI h) (nI (lr_n g 35)))), .ref 47] _
  refine pm_ifb_ne (off := 7) 13 (by decide +kernel) (by decide) (fun (h6 : (lr_be (nI h) (nI (lr_n g 35))) = true) => ?_) (fun (h9 : (lr_be (nI h) (nI (lr_n g 35))) = false) => absurd (h9.symm.trans (lr_be_1 hh (by omega))) (by decide))
  refine pm_bl [(.iload_n 2, 1, 2, 0, 0), (.iconst 0, 1, 0, 0, 0), (.sipush 365, 3, 0, 0, 365)] (pc1 := 18) (lo1 := [some (.ref 47), some (.int (nI h)), some (.int dy)]) (st1 := [.int 365, .int 0, .int dy, .ref 47]) (μ1 := μ) (vc := True) rfl (by decide +kernel) rfl trivial ?_
  refine pm_callS2 mi_X10_in (ix := 45) (kc2 := 0) (ks2 := 0) (As := [.int dy, .int 0, .int 365]) (rest := [.ref 47]) (c_X10_in dy 0 365 μ) cal_X10_in lk10_45 (by decide +kernel) rfl (by decide +kernel) rfl rfl (Nat.le_of_ble_eq_true rfl) (by decide) (by decide) (fun _ _ h9 => h9.elim) ?_
  rintro _ _ ⟨rfl, h9⟩; rw [h9]; clear h9
  show pm_V _ _ _ _ 21 _ [.int (lr_b (lr_in dy 0 365)), .ref 47] _
  refine pm_ifb_ne (off := 7) 28 (by decide +kernel) (by decide) (fun (h21 : (lr_in dy 0 365) = true) => ?_) (fun (h9 : (lr_in dy 0 365) = false) => absurd (h9.symm.trans (lr_in_d hdy hd)) (by decide))
  refine pm_bl [(.aload_n 0, 1, 0, 0, 0), (.iload_n 1, 1, 1, 0, 0), (.iload_n 2, 1, 2, 0, 0)] (pc1 := 31) (lo1 := [some (.ref 47), some (.int (nI h)), some (.int dy)]) (st1 := [.int dy, .int (nI h), .ref 47, .ref 47]) (μ1 := μ) (vc := True) rfl (by decide +kernel) rfl trivial ?_
  refine pm_callV2 mi_X10_signs (ix := 124) (b := 47) (ci := 10) (kc2 := 0) (ks2 := 0) (As := [.int (nI h), .int dy]) (rest := [.ref 47]) (c_X10_signs (p := h) (dy := dy) (d := d) μ (by first | exact hM | (rw [pm_set_off (by decide)]; exact hM)) hG hX hdy hd hh) cal_X10_signs lk10_124 (by decide +kernel) rfl (by decide +kernel) rfl rfl rfl rfl (Nat.le_of_ble_eq_true rfl) (by decide) (by decide) (fun _ _ h9 => h9.elim) ?_
  rintro _ _ ⟨rfl, h9⟩; rw [h9]; clear h9
  show pm_V _ _ _ _ 34 _ [.int (lr_sg g h dy), .ref 47] _
  refine pm_if_ge (off := 7) 41 (by decide +kernel) (by decide) (fun (h34 : 0 ≤ (lr_sg g h dy)) => ?_) (fun (h9 : ¬ (0 ≤ (lr_sg g h dy))) => absurd hs h9)
  refine pm_bl [(.iconst 0, 1, 0, 0, 0), (.putfield 35, 3, 10, 7, 0), (.aload_n 0, 1, 0, 0, 0), (.getfield 35, 3, 10, 7, 0)] (pc1 := 49) (lo1 := [some (.ref 47), some (.int (nI h)), some (.int dy)]) (st1 := [.int ((pm_set μ 47 7 0).1 47 7)]) (μ1 := pm_set μ 47 7 0) (vc := True) rfl (by decide +kernel) rfl trivial ?_
  rw [show (pm_set μ 47 7 0).1 47 7 = 0 from by rw [pm_set_hit] <;> omega]
  refine pm_if_le (off := 7) 56 (by decide +kernel) (by decide) (fun _ => ?_) (fun h9 => absurd h9 (by decide))
  refine pm_bl [(.aload_n 0, 1, 0, 0, 0), (.iload_n 1, 1, 1, 0, 0), (.iload_n 2, 1, 2, 0, 0)] (pc1 := 59) (lo1 := [some (.ref 47), some (.int (nI h)), some (.int dy)]) (st1 := [.int dy, .int (nI h), .ref 47]) (μ1 := pm_set μ 47 7 0) (vc := True) rfl (by decide +kernel) rfl trivial ?_
  refine pm_callV2 mi_X10_signs (ix := 124) (b := 47) (ci := 10) (kc2 := 0) (ks2 := 0) (As := [.int (nI h), .int dy]) (rest := []) (c_X10_signs (p := h) (dy := dy) (d := d) (pm_set μ 47 7 0) (by first | exact hM | (rw [pm_set_off (by decide)]; exact hM)) hG hX hdy hd hh) cal_X10_signs lk10_124 (by decide +kernel) rfl (by decide +kernel) rfl rfl rfl rfl (Nat.le_of_ble_eq_true rfl) (by decide) (by decide) (fun _ _ h9 => h9.elim) ?_
  rintro _ _ ⟨rfl, h9⟩; rw [h9]; clear h9
  show pm_V _ _ _ _ 62 _ [.int (lr_sg g h dy)] _
  exact pm_iret (ty := .int) rfl rfl (by decide) (by decide) (by decide +kernel) (⟨rfl, rfl⟩)
