/-! the model: the way and the stops -/
set_option maxHeartbeats 4000000 in
set_option maxRecDepth 100000 in
theorem l_X10_way {g : Nat → Int32} {p K : Nat} (hK : K < 2 ^ 31) (dy : Int32) (μ : pm_Mm) (hM : μ.1 48 = g) (hG : lr_G g) : ∀ n k : Nat, k + n = K → ∀ x : Int32, (x = -1 ∨ ∃ t, x = nI t ∧ t < lr_n g 2) → (lr_on g dy K (lr_wb g p dy)) = lr_on g dy n x → pm_V mi_X10_way ((fun v μ2 => v = some (.int (if (lr_on g dy K (lr_wb g p dy)) = -1 then 0 else (lr_on g dy K (lr_wb g p dy)))) ∧ μ2 = if (lr_on g dy K (lr_wb g p dy)) = -1 then pm_set μ 47 7 3 else μ), pm_NX, fun _ _ _ => True) 0 0 68 [some (.ref 47), some (.int (nI p)), some (.int dy), some (.int (nI K)), some (.int x), some (.int (nI k))] [] μ := by
  have hm1 := lr_mh hG; have hm2 := lr_mw hG; have hm3 := lr_mp hG; have hm4 := lr_mr hG; have hm5 := lr_ma hG; have hm6 := lr_ml hG
  intro n
  induction n with
  | zero =>
    intro k hk x hx he
    refine pm_bl [(.iload 5, 2, 5, 0, 0), (.iload_n 3, 1, 3, 0, 0)] (pc1 := 71) (lo1 := [some (.ref 47), some (.int (nI p)), some (.int dy), some (.int (nI K)), some (.int x), some (.int (nI k))]) (st1 := [.int (nI K), .int (nI k)]) (μ1 := μ) (vc := True) rfl (by decide +kernel) rfl trivial ?_
    refine pm_icmp_ge (off := 24) 95 (by decide +kernel) (by decide) (fun (h71 : (nI K) ≤ (nI k)) => ?_) (fun (h9 : ¬ ((nI K) ≤ (nI k))) => absurd (nI_le (by omega) (by omega)) h9)
    refine pm_bl [(.iload 4, 2, 4, 0, 0)] (pc1 := 97) (lo1 := [some (.ref 47), some (.int (nI p)), some (.int dy), some (.int (nI K)), some (.int x), some (.int (nI k))]) (st1 := [.int x]) (μ1 := μ) (vc := True) rfl (by decide +kernel) rfl trivial ?_
    refine pm_if_ge (off := 11) 108 (by decide +kernel) (by decide) (fun (h97 : 0 ≤ x) => ?_) (fun (h97 : ¬ (0 ≤ x)) => ?_)
    · refine pm_bl [(.iload 4, 2, 4, 0, 0)] (pc1 := 110) (lo1 := [some (.ref 47), some (.int (nI p)), some (.int dy), some (.int (nI K)), some (.int x), some (.int (nI k))]) (st1 := [.int x]) (μ1 := μ) (vc := True) rfl (by decide +kernel) rfl trivial ?_
      exact pm_iret (ty := .int) rfl rfl (by decide) (by decide) (by decide +kernel) (⟨by rw [he, lr_on, if_neg (fun e => absurd ((lr_okn hG hx).mpr e) (Int32.not_lt.mpr h97))], by rw [he, lr_on, if_neg (fun e => absurd ((lr_okn hG hx).mpr e) (Int32.not_lt.mpr h97))]⟩)
    · refine pm_bl [(.aload_n 0, 1, 0, 0, 0), (.iconst 3, 1, 0, 0, 3)] (pc1 := 102) (lo1 := [some (.ref 47), some (.int (nI p)), some (.int dy), some (.int (nI K)), some (.int x), some (.int (nI k))]) (st1 := [.int 3, .ref 47]) (μ1 := μ) (vc := True) rfl (by decide +kernel) rfl trivial ?_
      refine pm_callV2 mi_X10_fails (ix := 41) (b := 47) (ci := 10) (kc2 := 0) (ks2 := 0) (As := [.int 3]) (rest := []) (c_X10_fails 3 μ) cal_X10_fails lk10_41 (by decide +kernel) rfl (by decide +kernel) rfl rfl rfl rfl (Nat.le_of_ble_eq_true rfl) (by decide) (by decide) (fun _ _ h9 => h9.elim) ?_
      rintro _ _ ⟨rfl, h9⟩; rw [h9]; clear h9
      show pm_V _ _ _ _ 105 _ [.int 0] _
      refine pm_bl [(.goto 5, 3, 110, 0, 0)] (pc1 := 110) (lo1 := [some (.ref 47), some (.int (nI p)), some (.int dy), some (.int (nI K)), some (.int x), some (.int (nI k))]) (st1 := [.int 0]) (μ1 := pm_set μ 47 7 3) (vc := True) rfl (by decide +kernel) rfl trivial ?_
      exact pm_iret (ty := .int) rfl rfl (by decide) (by decide) (by decide +kernel) (⟨by rw [he, lr_on, if_pos ((lr_okn hG hx).mp (Int32.not_le.mp h97))], by rw [he, lr_on, if_pos ((lr_okn hG hx).mp (Int32.not_le.mp h97))]⟩)
  | succ n ih =>
    intro k hk x hx he
    refine pm_bl [(.iload 5, 2, 5, 0, 0), (.iload_n 3, 1, 3, 0, 0)] (pc1 := 71) (lo1 := [some (.ref 47), some (.int (nI p)), some (.int dy), some (.int (nI K)), some (.int x), some (.int (nI k))]) (st1 := [.int (nI K), .int (nI k)]) (μ1 := μ) (vc := True) rfl (by decide +kernel) rfl trivial ?_
    refine pm_icmp_ge (off := 24) 95 (by decide +kernel) (by decide) (fun (h9 : (nI K) ≤ (nI k)) => absurd h9 (nI_ge (by omega) (by omega))) (fun (h71 : ¬ ((nI K) ≤ (nI k))) => ?_)
    refine pm_bl [(.iload 4, 2, 4, 0, 0)] (pc1 := 76) (lo1 := [some (.ref 47), some (.int (nI p)), some (.int dy), some (.int (nI K)), some (.int x), some (.int (nI k))]) (st1 := [.int x]) (μ1 := μ) (vc := True) rfl (by decide +kernel) rfl trivial ?_
    refine pm_if_lt (off := 19) 95 (by decide +kernel) (by decide) (fun (h76 : x < 0) => ?_) (fun (h76 : ¬ (x < 0)) => ?_)
    · refine pm_bl [(.iload 4, 2, 4, 0, 0)] (pc1 := 97) (lo1 := [some (.ref 47), some (.int (nI p)), some (.int dy), some (.int (nI K)), some (.int x), some (.int (nI k))]) (st1 := [.int x]) (μ1 := μ) (vc := True) rfl (by decide +kernel) rfl trivial ?_
      refine pm_if_ge (off := 11) 108 (by decide +kernel) (by decide) (fun (h9 : 0 ≤ x) => absurd h9 (Int32.not_le.mpr h76)) (fun (h97 : ¬ (0 ≤ x)) => ?_)
      refine pm_bl [(.aload_n 0, 1, 0, 0, 0), (.iconst 3, 1, 0, 0, 3)] (pc1 := 102) (lo1 := [some (.ref 47), some (.int (nI p)), some (.int dy), some (.int (nI K)), some (.int x), some (.int (nI k))]) (st1 := [.int 3, .ref 47]) (μ1 := μ) (vc := True) rfl (by decide +kernel) rfl trivial ?_
      refine pm_callV2 mi_X10_fails (ix := 41) (b := 47) (ci := 10) (kc2 := 0) (ks2 := 0) (As := [.int 3]) (rest := []) (c_X10_fails 3 μ) cal_X10_fails lk10_41 (by decide +kernel) rfl (by decide +kernel) rfl rfl rfl rfl (Nat.le_of_ble_eq_true rfl) (by decide) (by decide) (fun _ _ h9 => h9.elim) ?_
      rintro _ _ ⟨rfl, h9⟩; rw [h9]; clear h9
      show pm_V _ _ _ _ 105 _ [.int 0] _
      refine pm_bl [(.goto 5, 3, 110, 0, 0)] (pc1 := 110) (lo1 := [some (.ref 47), some (.int (nI p)), some (.int dy), some (.int (nI K)), some (.int x), some (.int (nI k))]) (st1 := [.int 0]) (μ1 := pm_set μ 47 7 3) (vc := True) rfl (by decide +kernel) rfl trivial ?_
      exact pm_iret (ty := .int) rfl rfl (by decide) (by decide) (by decide +kernel) (⟨by rw [he, lr_on, if_pos ((lr_okn hG hx).mp h76), if_pos ((lr_okn hG hx).mp h76)], by rw [he, lr_on, if_pos ((lr_okn hG hx).mp h76), if_pos ((lr_okn hG hx).mp h76)]⟩)
    · refine pm_bl [(.aload_n 0, 1, 0, 0, 0), (.iconst 1, 1, 0, 0, 1), (.iload 4, 2, 4, 0, 0), (.iload_n 2, 1, 2, 0, 0)] (pc1 := 84) (lo1 := [some (.ref 47), some (.int (nI p)), some (.int dy), some (.int (nI K)), some (.int x), some (.int (nI k))]) (st1 := [.int dy, .int x, .int 1, .ref 47]) (μ1 := μ) (vc := True) rfl (by decide +kernel) rfl trivial ?_
      refine pm_callV2 mi_X10_leads (ix := 87) (b := 47) (ci := 10) (kc2 := 0) (ks2 := 0) (As := [.int 1, .int x, .int dy]) (rest := []) (c_X10_leads 1 x dy μ hM hG) cal_X10_leads lk10_87 (by decide +kernel) rfl (by decide +kernel) rfl rfl rfl rfl (Nat.le_of_ble_eq_true rfl) (by decide) (by decide) (fun _ _ h9 => h9.elim) ?_
      rintro _ _ ⟨rfl, h9⟩; rw [h9]; clear h9
      show pm_V _ _ _ _ 87 _ [.int (lr_ld g 1 x dy)] _
      refine pm_bl [(.istore 4, 2, 4, 0, 0), (.iinc 5 1, 3, 5, 0, 1), (.goto (-24), 3, 68, 0, 0)] (pc1 := 68) (lo1 := [some (.ref 47), some (.int (nI p)), some (.int dy), some (.int (nI K)), some (.int (lr_ld g 1 x dy)), some (.int ((nI k) + 1))]) (st1 := []) (μ1 := μ) (vc := True) rfl (by decide +kernel) rfl trivial ?_
      rw [nI_1]; exact ih (k + 1) (by omega) _ (lr_ld_ok hG 1 x dy) (by rw [he, lr_on, if_neg (fun e => h76 ((lr_okn hG hx).mpr e))])
set_option maxHeartbeats 4000000 in
set_option maxRecDepth 100000 in
theorem c_X10_way_no1 {g : Nat → Int32} {x : Int32} (y z : Int32) (μ : pm_Mm) (hM : μ.1 48 = g) (hG : lr_G g) (hb : lr_be x (nI (lr_n g 35)) = false) : pm_CT mi_X10_way [.ref 47, .int x, .int y, .int z] μ (fun v μ2 => v = some (.int 0) ∧ μ2 = pm_set μ 47 7 1) pm_NX := by
  refine pm_CT_of (lo := [some (.ref 47), some (.int x), some (.int y), some (.int z), none, none]) (by decide +kernel) rfl rfl (by intro v hv; simp at hv; rcases hv with rfl | rfl | rfl | rfl <;> rfl) (Nat.le_of_ble_eq_true rfl) rfl ?_
  have hm1 := lr_mh hG; have hm2 := lr_mw hG; have hm3 := lr_mp hG; have hm4 := lr_mr hG; have hm5 := lr_ma hG; have hm6 := lr_ml hG
  refine pm_bl [(.aload_n 0, 1, 0, 0, 0), (.aload_n 0, 1, 0, 0, 0), (.iload_n 1, 1, 1, 0, 0)] (pc1 := 3) (lo1 := [some (.ref 47), some (.int x), some (.int y), some (.int z), none, none]) (st1 := [.int x, .ref 47, .ref 47]) (μ1 := μ) (vc := True) rfl (by decide +kernel) rfl trivial ?_
  refine pm_callV2 mi_X10_isPerson (ix := 102) (b := 47) (ci := 10) (kc2 := 0) (ks2 := 0) (As := [.int x]) (rest := [.ref 47]) (c_X10_isPerson x μ hM hG) cal_X10_isPerson lk10_102 (by decide +kernel) rfl (by decide +kernel) rfl rfl rfl rfl (Nat.le_of_ble_eq_true rfl) (by decide) (by decide) (fun _ _ h9 => h9.elim) ?_
  rintro _ _ ⟨rfl, h9⟩; rw [h9]; clear h9
  show pm_V _ _ _ _ 6 _ [.int (lr_b (lr_be x (nI (lr_n g 35)))), .ref 47] _
  refine pm_ifb_ne (off := 7) 13 (by decide +kernel) (by decide) (fun (h9 : (lr_be x (nI (lr_n g 35))) = true) => absurd (hb.symm.trans h9) (by decide)) (fun (h6 : (lr_be x (nI (lr_n g 35))) = false) => ?_)
  refine pm_bl [(.iconst 1, 1, 0, 0, 1), (.goto 24, 3, 34, 0, 0), (.putfield 35, 3, 10, 7, 0), (.aload_n 0, 1, 0, 0, 0), (.getfield 35, 3, 10, 7, 0)] (pc1 := 41) (lo1 := [some (.ref 47), some (.int x), some (.int y), some (.int z), none, none]) (st1 := [.int ((pm_set μ 47 7 1).1 47 7)]) (μ1 := pm_set μ 47 7 1) (vc := True) rfl (by decide +kernel) rfl trivial ?_
  rw [show (pm_set μ 47 7 1).1 47 7 = 1 from by rw [pm_set_hit] <;> omega]
  refine pm_if_le (off := 5) 46 (by decide +kernel) (by decide) (fun h9 => absurd h9 (by decide)) (fun _ => ?_)
  refine pm_bl [(.iconst 0, 1, 0, 0, 0)] (pc1 := 45) (lo1 := [some (.ref 47), some (.int x), some (.int y), some (.int z), none, none]) (st1 := [.int 0]) (μ1 := pm_set μ 47 7 1) (vc := True) rfl (by decide +kernel) rfl trivial ?_
  exact pm_iret (ty := .int) rfl rfl (by decide) (by decide) (by decide +kernel) (⟨rfl, rfl⟩)
set_option maxHeartbeats 4000000 in
set_option maxRecDepth 100000 in
theorem c_X10_way_no2 {g : Nat → Int32} {h : Nat} {y : Int32} (z : Int32) (μ : pm_Mm) (hM : μ.1 48 = g) (hG : lr_G g) (hh : h < lr_n g 35) (hl : lr_in y 0 365 = false) : pm_CT mi_X10_way [.ref 47, .int (nI h), .int y, .int z] μ (fun v μ2 => v = some (.int 0) ∧ μ2 = pm_set μ 47 7 2) pm_NX := by
  refine pm_CT_of (lo := [some (.ref 47), some (.int (nI h)), some (.int y), some (.int z), none, none]) (by decide +kernel) rfl rfl (by intro v hv; simp at hv; rcases hv with rfl | rfl | rfl | rfl <;> rfl) (Nat.le_of_ble_eq_true rfl) rfl ?_
  have hm1 := lr_mh hG; have hm2 := lr_mw hG; have hm3 := lr_mp hG; have hm4 := lr_mr hG; have hm5 := lr_ma hG; have hm6 := lr_ml hG
  refine pm_bl [(.aload_n 0, 1, 0, 0, 0), (.aload_n 0, 1, 0, 0, 0), (.iload_n 1, 1, 1, 0, 0)] (pc1 := 3) (lo1 := [some (.ref 47), some (.int (nI h)), some (.int y), some (.int z), none, none]) (st1 := [.int (nI h), .ref 47, .ref 47]) (μ1 := μ) (vc := True) rfl (by decide +kernel) rfl trivial ?_
  refine pm_callV2 mi_X10_isPerson (ix := 102) (b := 47) (ci := 10) (kc2 := 0) (ks2 := 0) (As := [.int (nI h)]) (rest := [.ref 47]) (c_X10_isPerson (nI h) μ hM hG) cal_X10_isPerson lk10_102 (by decide +kernel) rfl (by decide +kernel) rfl rfl rfl rfl (Nat.le_of_ble_eq_true rfl) (by decide) (by decide) (fun _ _ h9 => h9.elim) ?_
  rintro _ _ ⟨rfl, h9⟩; rw [h9]; clear h9
  show pm_V _ _ _ _ 6 _ [.int (lr_b (lr_be (nI h) (nI (lr_n g 35)))), .ref 47] _
  refine pm_ifb_ne (off := 7) 13 (by decide +kernel) (by decide) (fun (h6 : (lr_be (nI h) (nI (lr_n g 35))) = true) => ?_) (fun (h9 : (lr_be (nI h) (nI (lr_n g 35))) = false) => absurd (h9.symm.trans (lr_be_1 hh (by omega))) (by decide))
  refine pm_bl [(.iload_n 2, 1, 2, 0, 0), (.iconst 0, 1, 0, 0, 0), (.sipush 365, 3, 0, 0, 365)] (pc1 := 18) (lo1 := [some (.ref 47), some (.int (nI h)), some (.int y), some (.int z), none, none]) (st1 := [.int 365, .int 0, .int y, .ref 47]) (μ1 := μ) (vc := True) rfl (by decide +kernel) rfl trivial ?_
  refine pm_callS2 mi_X10_in (ix := 45) (kc2 := 0) (ks2 := 0) (As := [.int y, .int 0, .int 365]) (rest := [.ref 47]) (c_X10_in y 0 365 μ) cal_X10_in lk10_45 (by decide +kernel) rfl (by decide +kernel) rfl rfl (Nat.le_of_ble_eq_true rfl) (by decide) (by decide) (fun _ _ h9 => h9.elim) ?_
  rintro _ _ ⟨rfl, h9⟩; rw [h9]; clear h9
  show pm_V _ _ _ _ 21 _ [.int (lr_b (lr_in y 0 365)), .ref 47] _
  refine pm_ifb_eq (off := 8) 29 (by decide +kernel) (by decide) (fun (h21 : (lr_in y 0 365) = false) => ?_) (fun (h9 : (lr_in y 0 365) = true) => absurd (hl.symm.trans h9) (by decide))
  refine pm_bl [(.iconst 2, 1, 0, 0, 2), (.goto 4, 3, 34, 0, 0), (.putfield 35, 3, 10, 7, 0), (.aload_n 0, 1, 0, 0, 0), (.getfield 35, 3, 10, 7, 0)] (pc1 := 41) (lo1 := [some (.ref 47), some (.int (nI h)), some (.int y), some (.int z), none, none]) (st1 := [.int ((pm_set μ 47 7 2).1 47 7)]) (μ1 := pm_set μ 47 7 2) (vc := True) rfl (by decide +kernel) rfl trivial ?_
  rw [show (pm_set μ 47 7 2).1 47 7 = 2 from by rw [pm_set_hit] <;> omega]
  refine pm_if_le (off := 5) 46 (by decide +kernel) (by decide) (fun h9 => absurd h9 (by decide)) (fun _ => ?_)
  refine pm_bl [(.iconst 0, 1, 0, 0, 0)] (pc1 := 45) (lo1 := [some (.ref 47), some (.int (nI h)), some (.int y), some (.int z), none, none]) (st1 := [.int 0]) (μ1 := pm_set μ 47 7 2) (vc := True) rfl (by decide +kernel) rfl trivial ?_
  exact pm_iret (ty := .int) rfl rfl (by decide) (by decide) (by decide +kernel) (⟨rfl, rfl⟩)
set_option maxHeartbeats 4000000 in
set_option maxRecDepth 100000 in
theorem c_X10_way_no2b {g : Nat → Int32} {h d : Nat} {dy z : Int32} (μ : pm_Mm) (hM : μ.1 48 = g) (hG : lr_G g) (hh : h < lr_n g 35) (hdy : dy = nI d) (hd : d ≤ 365) (hz : z < -1) : pm_CT mi_X10_way [.ref 47, .int (nI h), .int dy, .int z] μ (fun v μ2 => v = some (.int 0) ∧ μ2 = pm_set μ 47 7 2) pm_NX := by
  refine pm_CT_of (lo := [some (.ref 47), some (.int (nI h)), some (.int dy), some (.int z), none, none]) (by decide +kernel) rfl rfl (by intro v hv; simp at hv; rcases hv with rfl | rfl | rfl | rfl <;> rfl) (Nat.le_of_ble_eq_true rfl) rfl ?_
  have hm1 := lr_mh hG; have hm2 := lr_mw hG; have hm3 := lr_mp hG; have hm4 := lr_mr hG; have hm5 := lr_ma hG; have hm6 := lr_ml hG
  refine pm_bl [(.aload_n 0, 1, 0, 0, 0), (.aload_n 0, 1, 0, 0, 0), (.iload_n 1, 1, 1, 0, 0)] (pc1 := 3) (lo1 := [some (.ref 47), some (.int (nI h)), some (.int dy), some (.int z), none, none]) (st1 := [.int (nI h), .ref 47, .ref 47]) (μ1 := μ) (vc := True) rfl (by decide +kernel) rfl trivial ?_
  refine pm_callV2 mi_X10_isPerson (ix := 102) (b := 47) (ci := 10) (kc2 := 0) (ks2 := 0) (As := [.int (nI h)]) (rest := [.ref 47]) (c_X10_isPerson (nI h) μ hM hG) cal_X10_isPerson lk10_102 (by decide +kernel) rfl (by decide +kernel) rfl rfl rfl rfl (Nat.le_of_ble_eq_true rfl) (by decide) (by decide) (fun _ _ h9 => h9.elim) ?_
  rintro _ _ ⟨rfl, h9⟩; rw [h9]; clear h9
  show pm_V _ _ _ _ 6 _ [.int (lr_b (lr_be (nI h) (nI (lr_n g 35)))), .ref 47] _
  refine pm_ifb_ne (off := 7) 13 (by decide +kernel) (by decide) (fun (h6 : (lr_be (nI h) (nI (lr_n g 35))) = true) => ?_) (fun (h9 : (lr_be (nI h) (nI (lr_n g 35))) = false) => absurd (h9.symm.trans (lr_be_1 hh (by omega))) (by decide))
  refine pm_bl [(.iload_n 2, 1, 2, 0, 0), (.iconst 0, 1, 0, 0, 0), (.sipush 365, 3, 0, 0, 365)] (pc1 := 18) (lo1 := [some (.ref 47), some (.int (nI h)), some (.int dy), some (.int z), none, none]) (st1 := [.int 365, .int 0, .int dy, .ref 47]) (μ1 := μ) (vc := True) rfl (by decide +kernel) rfl trivial ?_
  refine pm_callS2 mi_X10_in (ix := 45) (kc2 := 0) (ks2 := 0) (As := [.int dy, .int 0, .int 365]) (rest := [.ref 47]) (c_X10_in dy 0 365 μ) cal_X10_in lk10_45 (by decide +kernel) rfl (by decide +kernel) rfl rfl (Nat.le_of_ble_eq_true rfl) (by decide) (by decide) (fun _ _ h9 => h9.elim) ?_
  rintro _ _ ⟨rfl, h9⟩; rw [h9]; clear h9
  show pm_V _ _ _ _ 21 _ [.int (lr_b (lr_in dy 0 365)), .ref 47] _
  refine pm_ifb_eq (off := 8) 29 (by decide +kernel) (by decide) (fun (h9 : (lr_in dy 0 365) = false) => absurd (h9.symm.trans (lr_in_d hdy hd)) (by decide)) (fun (h21 : (lr_in dy 0 365) = true) => ?_)
  refine pm_bl [(.iload_n 3, 1, 3, 0, 0), (.iconst (-1), 1, 0, 0, (-1))] (pc1 := 26) (lo1 := [some (.ref 47), some (.int (nI h)), some (.int dy), some (.int z), none, none]) (st1 := [.int (-1), .int z, .ref 47]) (μ1 := μ) (vc := True) rfl (by decide +kernel) rfl trivial ?_
  refine pm_icmp_ge (off := 7) 33 (by decide +kernel) (by decide) (fun (h9 : (-1) ≤ z) => absurd h9 (Int32.not_le.mpr hz)) (fun (h26 : ¬ ((-1) ≤ z)) => ?_)
  refine pm_bl [(.iconst 2, 1, 0, 0, 2), (.goto 4, 3, 34, 0, 0), (.putfield 35, 3, 10, 7, 0), (.aload_n 0, 1, 0, 0, 0), (.getfield 35, 3, 10, 7, 0)] (pc1 := 41) (lo1 := [some (.ref 47), some (.int (nI h)), some (.int dy), some (.int z), none, none]) (st1 := [.int ((pm_set μ 47 7 2).1 47 7)]) (μ1 := pm_set μ 47 7 2) (vc := True) rfl (by decide +kernel) rfl trivial ?_
  rw [show (pm_set μ 47 7 2).1 47 7 = 2 from by rw [pm_set_hit] <;> omega]
  refine pm_if_le (off := 5) 46 (by decide +kernel) (by decide) (fun h9 => absurd h9 (by decide)) (fun _ => ?_)
  refine pm_bl [(.iconst 0, 1, 0, 0, 0)] (pc1 := 45) (lo1 := [some (.ref 47), some (.int (nI h)), some (.int dy), some (.int z), none, none]) (st1 := [.int 0]) (μ1 := pm_set μ 47 7 2) (vc := True) rfl (by decide +kernel) rfl trivial ?_
  exact pm_iret (ty := .int) rfl rfl (by decide) (by decide) (by decide +kernel) (⟨rfl, rfl⟩)
set_option maxHeartbeats 4000000 in
set_option maxRecDepth 100000 in
theorem c_X10_way_end {g : Nat → Int32} {h d : Nat} {dy : Int32} (μ : pm_Mm) (hM : μ.1 48 = g) (hG : lr_G g) (hh : h < lr_n g 35) (hX : lr_X g) (hdy : dy = nI d) (hd : d ≤ 365) : pm_CT mi_X10_way [.ref 47, .int (nI h), .int dy, .int (-1)] μ (fun v μ2 => v = some (.int (lr_we g h dy)) ∧ μ2 = pm_set μ 47 7 0) pm_NX := by
  refine pm_CT_of (lo := [some (.ref 47), some (.int (nI h)), some (.int dy), some (.int (-1)), none, none]) (by decide +kernel) rfl rfl (by intro v hv; simp at hv; rcases hv with rfl | rfl | rfl | rfl <;> rfl) (Nat.le_of_ble_eq_true rfl) rfl ?_
  have hm1 := lr_mh hG; have hm2 := lr_mw hG; have hm3 := lr_mp hG; have hm4 := lr_mr hG; have hm5 := lr_ma hG; have hm6 := lr_ml hG
  refine pm_bl [(.aload_n 0, 1, 0, 0, 0), (.aload_n 0, 1, 0, 0, 0), (.iload_n 1, 1, 1, 0, 0)] (pc1 := 3) (lo1 := [some (.ref 47), some (.int (nI h)), some (.int dy), some (.int (-1)), none, none]) (st1 := [.int (nI h), .ref 47, .ref 47]) (μ1 := μ) (vc := True) rfl (by decide +kernel) rfl trivial ?_
  refine pm_callV2 mi_X10_isPerson (ix := 102) (b := 47) (ci := 10) (kc2 := 0) (ks2 := 0) (As := [.int (nI h)]) (rest := [.ref 47]) (c_X10_isPerson (nI h) μ hM hG) cal_X10_isPerson lk10_102 (by decide +kernel) rfl (by decide +kernel) rfl rfl rfl rfl (Nat.le_of_ble_eq_true rfl) (by decide) (by decide) (fun _ _ h9 => h9.elim) ?_
  rintro _ _ ⟨rfl, h9⟩; rw [h9]; clear h9
  show pm_V _ _ _ _ 6 _ [.int (lr_b (lr_be (nI h) (nI (lr_n g 35)))), .ref 47] _
  refine pm_ifb_ne (off := 7) 13 (by decide +kernel) (by decide) (fun (h6 : (lr_be (nI h) (nI (lr_n g 35))) = true) => ?_) (fun (h9 : (lr_be (nI h) (nI (lr_n g 35))) = false) => absurd (h9.symm.trans (lr_be_1 hh (by omega))) (by decide))
  refine pm_bl [(.iload_n 2, 1, 2, 0, 0), (.iconst 0, 1, 0, 0, 0), (.sipush 365, 3, 0, 0, 365)] (pc1 := 18) (lo1 := [some (.ref 47), some (.int (nI h)), some (.int dy), some (.int (-1)), none, none]) (st1 := [.int 365, .int 0, .int dy, .ref 47]) (μ1 := μ) (vc := True) rfl (by decide +kernel) rfl trivial ?_
  refine pm_callS2 mi_X10_in (ix := 45) (kc2 := 0) (ks2 := 0) (As := [.int dy, .int 0, .int 365]) (rest := [.ref 47]) (c_X10_in dy 0 365 μ) cal_X10_in lk10_45 (by decide +kernel) rfl (by decide +kernel) rfl rfl (Nat.le_of_ble_eq_true rfl) (by decide) (by decide) (fun _ _ h9 => h9.elim) ?_
  rintro _ _ ⟨rfl, h9⟩; rw [h9]; clear h9
  show pm_V _ _ _ _ 21 _ [.int (lr_b (lr_in dy 0 365)), .ref 47] _
  refine pm_ifb_eq (off := 8) 29 (by decide +kernel) (by decide) (fun (h9 : (lr_in dy 0 365) = false) => absurd (h9.symm.trans (lr_in_d hdy hd)) (by decide)) (fun (h21 : (lr_in dy 0 365) = true) => ?_)
  refine pm_bl [(.iload_n 3, 1, 3, 0, 0), (.iconst (-1), 1, 0, 0, (-1))] (pc1 := 26) (lo1 := [some (.ref 47), some (.int (nI h)), some (.int dy), some (.int (-1)), none, none]) (st1 := [.int (-1), .int (-1), .ref 47]) (μ1 := μ) (vc := True) rfl (by decide +kernel) rfl trivial ?_
  refine pm_icmp_ge (off := 7) 33 (by decide +kernel) (by decide) (fun _ => ?_) (fun h9 => absurd h9 (by decide))
  refine pm_bl [(.iconst 0, 1, 0, 0, 0), (.putfield 35, 3, 10, 7, 0), (.aload_n 0, 1, 0, 0, 0), (.getfield 35, 3, 10, 7, 0)] (pc1 := 41) (lo1 := [some (.ref 47), some (.int (nI h)), some (.int dy), some (.int (-1)), none, none]) (st1 := [.int ((pm_set μ 47 7 0).1 47 7)]) (μ1 := pm_set μ 47 7 0) (vc := True) rfl (by decide +kernel) rfl trivial ?_
  rw [show (pm_set μ 47 7 0).1 47 7 = 0 from by rw [pm_set_hit] <;> omega]
  refine pm_if_le (off := 5) 46 (by decide +kernel) (by decide) (fun _ => ?_) (fun h9 => absurd h9 (by decide))
  refine pm_bl [(.iload_n 3, 1, 3, 0, 0)] (pc1 := 47) (lo1 := [some (.ref 47), some (.int (nI h)), some (.int dy), some (.int (-1)), none, none]) (st1 := [.int (-1)]) (μ1 := pm_set μ 47 7 0) (vc := True) rfl (by decide +kernel) rfl trivial ?_
  refine pm_if_ge (off := 10) 57 (by decide +kernel) (by decide) (fun h9 => absurd h9 (by decide)) (fun _ => ?_)
  refine pm_bl [(.aload_n 0, 1, 0, 0, 0), (.iload_n 1, 1, 1, 0, 0), (.iload_n 2, 1, 2, 0, 0)] (pc1 := 53) (lo1 := [some (.ref 47), some (.int (nI h)), some (.int dy), some (.int (-1)), none, none]) (st1 := [.int dy, .int (nI h), .ref 47]) (μ1 := pm_set μ 47 7 0) (vc := True) rfl (by decide +kernel) rfl trivial ?_
  refine pm_callV2 mi_X10_wayEnds (ix := 118) (b := 47) (ci := 10) (kc2 := 0) (ks2 := 0) (As := [.int (nI h), .int dy]) (rest := []) (c_X10_wayEnds (p := h) (dy := dy) (d := d) (pm_set μ 47 7 0) (by first | exact hM | (rw [pm_set_off (by decide)]; exact hM)) hG hX hdy hd hh) cal_X10_wayEnds lk10_118 (by decide +kernel) rfl (by decide +kernel) rfl rfl rfl rfl (Nat.le_of_ble_eq_true rfl) (by decide) (by decide) (fun _ _ h9 => h9.elim) ?_
  rintro _ _ ⟨rfl, h9⟩; rw [h9]; clear h9
  show pm_V _ _ _ _ 56 _ [.int (lr_we g h dy)] _
  exact pm_iret (ty := .int) rfl rfl (by decide) (by decide) (by decide +kernel) (⟨rfl, rfl⟩)
set_option maxHeartbeats 4000000 in
set_option maxRecDepth 100000 in
theorem c_X10_way {g : Nat → Int32} {h d K : Nat} {dy : Int32} (μ : pm_Mm) (hM : μ.1 48 = g) (hG : lr_G g) (hh : h < lr_n g 35) (hdy : dy = nI d) (hd : d ≤ 365) (hK : K < 2 ^ 31) : pm_CT mi_X10_way [.ref 47, .int (nI h), .int dy, .int (nI K)] μ (fun v μ2 => v = some (.int (if (lr_on g dy K (lr_wb g h dy)) = -1 then 0 else (lr_on g dy K (lr_wb g h dy)))) ∧ μ2 = if (lr_on g dy K (lr_wb g h dy)) = -1 then pm_set (pm_set μ 47 7 0) 47 7 3 else pm_set μ 47 7 0) pm_NX := by
  refine pm_CT_of (lo := [some (.ref 47), some (.int (nI h)), some (.int dy), some (.int (nI K)), none, none]) (by decide +kernel) rfl rfl (by intro v hv; simp at hv; rcases hv with rfl | rfl | rfl | rfl <;> rfl) (Nat.le_of_ble_eq_true rfl) rfl ?_
  have hm1 := lr_mh hG; have hm2 := lr_mw hG; have hm3 := lr_mp hG; have hm4 := lr_mr hG; have hm5 := lr_ma hG; have hm6 := lr_ml hG
  refine pm_bl [(.aload_n 0, 1, 0, 0, 0), (.aload_n 0, 1, 0, 0, 0), (.iload_n 1, 1, 1, 0, 0)] (pc1 := 3) (lo1 := [some (.ref 47), some (.int (nI h)), some (.int dy), some (.int (nI K)), none, none]) (st1 := [.int (nI h), .ref 47, .ref 47]) (μ1 := μ) (vc := True) rfl (by decide +kernel) rfl trivial ?_
  refine pm_callV2 mi_X10_isPerson (ix := 102) (b := 47) (ci := 10) (kc2 := 0) (ks2 := 0) (As := [.int (nI h)]) (rest := [.ref 47]) (c_X10_isPerson (nI h) μ hM hG) cal_X10_isPerson lk10_102 (by decide +kernel) rfl (by decide +kernel) rfl rfl rfl rfl (Nat.le_of_ble_eq_true rfl) (by decide) (by decide) (fun _ _ h9 => h9.elim) ?_
  rintro _ _ ⟨rfl, h9⟩; rw [h9]; clear h9
  show pm_V _ _ _ _ 6 _ [.int (lr_b (lr_be (nI h) (nI (lr_n g 35)))), .ref 47] _
  refine pm_ifb_ne (off := 7) 13 (by decide +kernel) (by decide) (fun (h6 : (lr_be (nI h) (nI (lr_n g 35))) = true) => ?_) (fun (h9 : (lr_be (nI h) (nI (lr_n g 35))) = false) => absurd (h9.symm.trans (lr_be_1 hh (by omega))) (by decide))
  refine pm_bl [(.iload_n 2, 1, 2, 0, 0), (.iconst 0, 1, 0, 0, 0), (.sipush 365, 3, 0, 0, 365)] (pc1 := 18) (lo1 := [some (.ref 47), some (.int (nI h)), some (.int dy), some (.int (nI K)), none, none]) (st1 := [.int 365, .int 0, .int dy, .ref 47]) (μ1 := μ) (vc := True) rfl (by decide +kernel) rfl trivial ?_
  refine pm_callS2 mi_X10_in (ix := 45) (kc2 := 0) (ks2 := 0) (As := [.int dy, .int 0, .int 365]) (rest := [.ref 47]) (c_X10_in dy 0 365 μ) cal_X10_in lk10_45 (by decide +kernel) rfl (by decide +kernel) rfl rfl (Nat.le_of_ble_eq_true rfl) (by decide) (by decide) (fun _ _ h9 => h9.elim) ?_
  rintro _ _ ⟨rfl, h9⟩; rw [h9]; clear h9
  show pm_V _ _ _ _ 21 _ [.int (lr_b (lr_in dy 0 365)), .ref 47] _
  refine pm_ifb_eq (off := 8) 29 (by decide +kernel) (by decide) (fun (h9 : (lr_in dy 0 365) = false) => absurd (h9.symm.trans (lr_in_d hdy hd)) (by decide)) (fun (h21 : (lr_in dy 0 365) = true) => ?_)
  refine pm_bl [(.iload_n 3, 1, 3, 0, 0), (.iconst (-1), 1, 0, 0, (-1))] (pc1 := 26) (lo1 := [some (.ref 47), some (.int (nI h)), some (.int dy), some (.int (nI K)), none, none]) (st1 := [.int (-1), .int (nI K), .ref 47]) (μ1 := μ) (vc := True) rfl (by decide +kernel) rfl trivial ?_
  refine pm_icmp_ge (off := 7) 33 (by decide +kernel) (by decide) (fun (h26 : (-1) ≤ (nI K)) => ?_) (fun (h9 : ¬ ((-1) ≤ (nI K))) => absurd (Int32.le_trans (by decide) (nI_pos' hK)) h9)
  refine pm_bl [(.iconst 0, 1, 0, 0, 0), (.putfield 35, 3, 10, 7, 0), (.aload_n 0, 1, 0, 0, 0), (.getfield 35, 3, 10, 7, 0)] (pc1 := 41) (lo1 := [some (.ref 47), some (.int (nI h)), some (.int dy), some (.int (nI K)), none, none]) (st1 := [.int ((pm_set μ 47 7 0).1 47 7)]) (μ1 := pm_set μ 47 7 0) (vc := True) rfl (by decide +kernel) rfl trivial ?_
  rw [show (pm_set μ 47 7 0).1 47 7 = 0 from by rw [pm_set_hit] <;> omega]
  refine pm_if_le (off := 5) 46 (by decide +kernel) (by decide) (fun _ => ?_) (fun h9 => absurd h9 (by decide))
  refine pm_bl [(.iload_n 3, 1, 3, 0, 0)] (pc1 := 47) (lo1 := [some (.ref 47), some (.int (nI h)), some (.int dy), some (.int (nI K)), none, none]) (st1 := [.int (nI K)]) (μ1 := pm_set μ 47 7 0) (vc := True) rfl (by decide +kernel) rfl trivial ?_
  refine pm_if_ge (off := 10) 57 (by decide +kernel) (by decide) (fun (h47 : 0 ≤ (nI K)) => ?_) (fun (h9 : ¬ (0 ≤ (nI K))) => absurd (nI_pos' hK) h9)
  refine pm_bl [(.aload_n 0, 1, 0, 0, 0), (.iload_n 1, 1, 1, 0, 0), (.iload_n 2, 1, 2, 0, 0)] (pc1 := 60) (lo1 := [some (.ref 47), some (.int (nI h)), some (.int dy), some (.int (nI K)), none, none]) (st1 := [.int dy, .int (nI h), .ref 47]) (μ1 := pm_set μ 47 7 0) (vc := True) rfl (by decide +kernel) rfl trivial ?_
  refine pm_callV2 mi_X10_wayBegins (ix := 115) (b := 47) (ci := 10) (kc2 := 0) (ks2 := 0) (As := [.int (nI h), .int dy]) (rest := []) (c_X10_wayBegins (p := h) dy (pm_set μ 47 7 0) (by first | exact hM | (rw [pm_set_off (by decide)]; exact hM)) hG hh) cal_X10_wayBegins lk10_115 (by decide +kernel) rfl (by decide +kernel) rfl rfl rfl rfl (Nat.le_of_ble_eq_true rfl) (by decide) (by decide) (fun _ _ h9 => h9.elim) ?_
  rintro _ _ ⟨rfl, h9⟩; rw [h9]; clear h9
  show pm_V _ _ _ _ 63 _ [.int (lr_wb g h dy)] _
  refine pm_bl [(.istore 4, 2, 4, 0, 0), (.iconst 0, 1, 0, 0, 0), (.istore 5, 2, 5, 0, 0)] (pc1 := 68) (lo1 := [some (.ref 47), some (.int (nI h)), some (.int dy), some (.int (nI K)), some (.int (lr_wb g h dy)), some (.int 0)]) (st1 := []) (μ1 := pm_set μ 47 7 0) (vc := True) rfl (by decide +kernel) rfl trivial ?_
  exact l_X10_way hK dy _ (by rw [pm_set_off (by decide)]; exact hM) hG K 0 (Nat.zero_add _) _ (Or.inr (lr_wb_ok hG hh dy)) rfl
