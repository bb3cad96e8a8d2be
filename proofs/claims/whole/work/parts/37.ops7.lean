/-! the model: residents -/
set_option maxHeartbeats 4000000 in
set_option maxRecDepth 100000 in
theorem l_X10_residents {g : Nat → Int32} {d : Nat} (y z dy : Int32) (μ : pm_Mm) (hM : μ.1 48 = g) (hG : lr_G g) (hX : lr_X g) (hdy : dy = nI d) (hd : d ≤ 365) (ht : μ.1 47 7 = 0) : ∀ n k : Nat, ∀ x : Int32, k + n = lr_n g 35 → x = lr_sum (fun p => lr_b (decide (g (36 + 4 * p) = y) && decide (lr_we g p dy = z))) k → pm_V mi_X10_residents ((fun v μ2 => v = some (.int (lr_sum (fun p => lr_b (decide (g (36 + 4 * p) = y) && decide (lr_we g p dy = z))) (lr_n g 35))) ∧ μ2 = μ), pm_NX, fun _ _ _ => True) 0 0 46 [some (.ref 47), some (.int y), some (.int z), some (.int dy), some (.int x), some (.int (nI k))] [] μ := by
  have hm1 := lr_mh hG; have hm2 := lr_mw hG; have hm3 := lr_mp hG; have hm4 := lr_mr hG; have hm5 := lr_ma hG; have hm6 := lr_ml hG
  intro n
  induction n with
  | zero =>
    intro k x hk he
    refine pm_bl [(.iload 5, 2, 5, 0, 0), (.aload_n 0, 1, 0, 0, 0), (.getfield 7, 3, 10, 0, 0), (.bipush 35, 2, 0, 0, 35), (.iaload, 1, 0, 0, 0)] (pc1 := 55) (lo1 := [some (.ref 47), some (.int y), some (.int z), some (.int dy), some (.int x), some (.int (nI k))]) (st1 := [.int (μ.1 48 (35 : Int32).toNatClampNeg), .int (nI k)]) (μ1 := μ) (vc := vp_in 35 620 ∧ True) rfl (by decide +kernel) rfl ⟨(by unfold vp_in; decide), trivial⟩ ?_
    rw [show (35 : Int32).toNatClampNeg = 35 from by decide, hM, lr_gp hG]
    refine pm_icmp_ge (off := 47) 102 (by decide +kernel) (by decide) (fun (h55 : (nI (lr_n g 35)) ≤ (nI k)) => ?_) (fun (h9 : ¬ ((nI (lr_n g 35)) ≤ (nI k))) => absurd (nI_le (by omega) (by omega)) h9)
    refine pm_bl [(.iload 4, 2, 4, 0, 0)] (pc1 := 104) (lo1 := [some (.ref 47), some (.int y), some (.int z), some (.int dy), some (.int x), some (.int (nI k))]) (st1 := [.int x]) (μ1 := μ) (vc := True) rfl (by decide +kernel) rfl trivial ?_
    exact pm_iret (ty := .int) rfl rfl (by decide) (by decide) (by decide +kernel) (⟨by rw [he, ← hk]; rfl, rfl⟩)
  | succ n ih =>
    intro k x hk he
    refine pm_bl [(.iload 5, 2, 5, 0, 0), (.aload_n 0, 1, 0, 0, 0), (.getfield 7, 3, 10, 0, 0), (.bipush 35, 2, 0, 0, 35), (.iaload, 1, 0, 0, 0)] (pc1 := 55) (lo1 := [some (.ref 47), some (.int y), some (.int z), some (.int dy), some (.int x), some (.int (nI k))]) (st1 := [.int (μ.1 48 (35 : Int32).toNatClampNeg), .int (nI k)]) (μ1 := μ) (vc := vp_in 35 620 ∧ True) rfl (by decide +kernel) rfl ⟨(by unfold vp_in; decide), trivial⟩ ?_
    rw [show (35 : Int32).toNatClampNeg = 35 from by decide, hM, lr_gp hG]
    refine pm_icmp_ge (off := 47) 102 (by decide +kernel) (by decide) (fun (h9 : (nI (lr_n g 35)) ≤ (nI k)) => absurd h9 (nI_ge (by omega) (by omega))) (fun (h55 : ¬ ((nI (lr_n g 35)) ≤ (nI k))) => ?_)
    refine pm_bl [(.aload_n 0, 1, 0, 0, 0), (.getfield 35, 3, 10, 7, 0)] (pc1 := 62) (lo1 := [some (.ref 47), some (.int y), some (.int z), some (.int dy), some (.int x), some (.int (nI k))]) (st1 := [.int (μ.1 47 7)]) (μ1 := μ) (vc := True) rfl (by decide +kernel) rfl trivial ?_
    rw [ht]
    refine pm_if_ne (off := 40) 102 (by decide +kernel) (by decide) (fun h9 => absurd h9 (by decide)) (fun _ => ?_)
    refine pm_bl [(.iload 4, 2, 4, 0, 0), (.aload_n 0, 1, 0, 0, 0), (.iload 5, 2, 5, 0, 0)] (pc1 := 70) (lo1 := [some (.ref 47), some (.int y), some (.int z), some (.int dy), some (.int x), some (.int (nI k))]) (st1 := [.int (nI k), .ref 47, .int x]) (μ1 := μ) (vc := True) rfl (by decide +kernel) rfl trivial ?_
    refine pm_callV2 mi_X10_houseOf (ix := 112) (b := 47) (ci := 10) (kc2 := 0) (ks2 := 0) (As := [.int (nI k)]) (rest := [.int x]) (c_X10_houseOf (h := k) μ hM (by omega)) cal_X10_houseOf lk10_112 (by decide +kernel) rfl (by decide +kernel) rfl rfl rfl rfl (Nat.le_of_ble_eq_true rfl) (by decide) (by decide) (fun _ _ h9 => h9.elim) ?_
    rintro _ _ ⟨rfl, h9⟩; rw [h9]; clear h9
    show pm_V _ _ _ _ 73 _ [.int (g (36 + 4 * k)), .int x] _
    refine pm_bl [(.iload_n 1, 1, 1, 0, 0)] (pc1 := 74) (lo1 := [some (.ref 47), some (.int y), some (.int z), some (.int dy), some (.int x), some (.int (nI k))]) (st1 := [.int y, .int (g (36 + 4 * k)), .int x]) (μ1 := μ) (vc := True) rfl (by decide +kernel) rfl trivial ?_
    refine pm_icmp_ne (off := 18) 92 (by decide +kernel) (by decide) (fun (h74 : ¬ (g (36 + 4 * k)) = y) => ?_) (fun (h74 : (g (36 + 4 * k)) = y) => ?_)
    · refine pm_bl [(.iconst 0, 1, 0, 0, 0), (.iadd, 1, 0, 0, 0), (.istore 4, 2, 4, 0, 0), (.iinc 5 1, 3, 5, 0, 1), (.goto (-53), 3, 46, 0, 0)] (pc1 := 46) (lo1 := [some (.ref 47), some (.int y), some (.int z), some (.int dy), some (.int (x + 0)), some (.int ((nI k) + 1))]) (st1 := []) (μ1 := μ) (vc := True) rfl (by decide +kernel) rfl trivial ?_
      rw [nI_1]; exact ih (k + 1) _ (by omega) (by rw [he]; simp_all [lr_sum, lr_b])
    · refine pm_bl [(.aload_n 0, 1, 0, 0, 0), (.iload 5, 2, 5, 0, 0), (.iload_n 3, 1, 3, 0, 0)] (pc1 := 81) (lo1 := [some (.ref 47), some (.int y), some (.int z), some (.int dy), some (.int x), some (.int (nI k))]) (st1 := [.int dy, .int (nI k), .ref 47, .int x]) (μ1 := μ) (vc := True) rfl (by decide +kernel) rfl trivial ?_
      refine pm_callV2 mi_X10_wayEnds (ix := 118) (b := 47) (ci := 10) (kc2 := 0) (ks2 := 0) (As := [.int (nI k), .int dy]) (rest := [.int x]) (c_X10_wayEnds (p := k) (dy := dy) (d := d) μ hM hG hX hdy hd (by omega)) cal_X10_wayEnds lk10_118 (by decide +kernel) rfl (by decide +kernel) rfl rfl rfl rfl (Nat.le_of_ble_eq_true rfl) (by decide) (by decide) (fun _ _ h9 => h9.elim) ?_
      rintro _ _ ⟨rfl, h9⟩; rw [h9]; clear h9
      show pm_V _ _ _ _ 84 _ [.int (lr_we g k dy), .int x] _
      refine pm_bl [(.iload_n 2, 1, 2, 0, 0)] (pc1 := 85) (lo1 := [some (.ref 47), some (.int y), some (.int z), some (.int dy), some (.int x), some (.int (nI k))]) (st1 := [.int z, .int (lr_we g k dy), .int x]) (μ1 := μ) (vc := True) rfl (by decide +kernel) rfl trivial ?_
      refine pm_icmp_ne (off := 7) 92 (by decide +kernel) (by decide) (fun (h85 : ¬ (lr_we g k dy) = z) => ?_) (fun (h85 : (lr_we g k dy) = z) => ?_)
      · refine pm_bl [(.iconst 0, 1, 0, 0, 0), (.iadd, 1, 0, 0, 0), (.istore 4, 2, 4, 0, 0), (.iinc 5 1, 3, 5, 0, 1), (.goto (-53), 3, 46, 0, 0)] (pc1 := 46) (lo1 := [some (.ref 47), some (.int y), some (.int z), some (.int dy), some (.int (x + 0)), some (.int ((nI k) + 1))]) (st1 := []) (μ1 := μ) (vc := True) rfl (by decide +kernel) rfl trivial ?_
        rw [nI_1]; exact ih (k + 1) _ (by omega) (by rw [he]; simp_all [lr_sum, lr_b])
      · refine pm_bl [(.iconst 1, 1, 0, 0, 1), (.goto 4, 3, 93, 0, 0), (.iadd, 1, 0, 0, 0), (.istore 4, 2, 4, 0, 0), (.iinc 5 1, 3, 5, 0, 1), (.goto (-53), 3, 46, 0, 0)] (pc1 := 46) (lo1 := [some (.ref 47), some (.int y), some (.int z), some (.int dy), some (.int (x + 1)), some (.int ((nI k) + 1))]) (st1 := []) (μ1 := μ) (vc := True) rfl (by decide +kernel) rfl trivial ?_
        rw [nI_1]; exact ih (k + 1) _ (by omega) (by rw [he]; simp_all [lr_sum, lr_b])
set_option maxHeartbeats 4000000 in
set_option maxRecDepth 100000 in
theorem c_X10_residents_no1 {g : Nat → Int32} {x : Int32} (y z : Int32) (μ : pm_Mm) (hM : μ.1 48 = g) (hG : lr_G g) (hb : lr_be x (nI (lr_n g 2)) = false) : pm_CT mi_X10_residents [.ref 47, .int x, .int y, .int z] μ (fun v μ2 => v = some (.int 0) ∧ μ2 = pm_set μ 47 7 1) pm_NX := by
  refine pm_CT_of (lo := [some (.ref 47), some (.int x), some (.int y), some (.int z), none, none]) (by decide +kernel) rfl rfl (by intro v hv; simp at hv; rcases hv with rfl | rfl | rfl | rfl <;> rfl) (Nat.le_of_ble_eq_true rfl) rfl ?_
  have hm1 := lr_mh hG; have hm2 := lr_mw hG; have hm3 := lr_mp hG; have hm4 := lr_mr hG; have hm5 := lr_ma hG; have hm6 := lr_ml hG
  refine pm_bl [(.aload_n 0, 1, 0, 0, 0), (.aload_n 0, 1, 0, 0, 0), (.iload_n 1, 1, 1, 0, 0)] (pc1 := 3) (lo1 := [some (.ref 47), some (.int x), some (.int y), some (.int z), none, none]) (st1 := [.int x, .ref 47, .ref 47]) (μ1 := μ) (vc := True) rfl (by decide +kernel) rfl trivial ?_
  refine pm_callV2 mi_X10_isHouse (ix := 70) (b := 47) (ci := 10) (kc2 := 0) (ks2 := 0) (As := [.int x]) (rest := [.ref 47]) (c_X10_isHouse x μ hM hG) cal_X10_isHouse lk10_70 (by decide +kernel) rfl (by decide +kernel) rfl rfl rfl rfl (Nat.le_of_ble_eq_true rfl) (by decide) (by decide) (fun _ _ h9 => h9.elim) ?_
  rintro _ _ ⟨rfl, h9⟩; rw [h9]; clear h9
  show pm_V _ _ _ _ 6 _ [.int (lr_b (lr_be x (nI (lr_n g 2)))), .ref 47] _
  refine pm_ifb_eq (off := 11) 17 (by decide +kernel) (by decide) (fun (h6 : (lr_be x (nI (lr_n g 2))) = false) => ?_) (fun (h9 : (lr_be x (nI (lr_n g 2))) = true) => absurd (hb.symm.trans h9) (by decide))
  refine pm_bl [(.iconst 1, 1, 0, 0, 1), (.goto 19, 3, 37, 0, 0), (.putfield 35, 3, 10, 7, 0), (.iconst 0, 1, 0, 0, 0), (.istore 4, 2, 4, 0, 0), (.iconst 0, 1, 0, 0, 0), (.istore 5, 2, 5, 0, 0), (.iload 5, 2, 5, 0, 0), (.aload_n 0, 1, 0, 0, 0), (.getfield 7, 3, 10, 0, 0), (.bipush 35, 2, 0, 0, 35), (.iaload, 1, 0, 0, 0)] (pc1 := 55) (lo1 := [some (.ref 47), some (.int x), some (.int y), some (.int z), some (.int 0), some (.int 0)]) (st1 := [.int ((pm_set μ 47 7 1).1 48 (35 : Int32).toNatClampNeg), .int 0]) (μ1 := pm_set μ 47 7 1) (vc := vp_in 35 620 ∧ True) rfl (by decide +kernel) rfl ⟨(by unfold vp_in; decide), trivial⟩ ?_
  try rw [show (35 : Int32).toNatClampNeg = 35 from by decide]
  rw [show (pm_set μ 47 7 1).1 48 35 = μ.1 48 35 from by rw [pm_set_miss] <;> omega]
  rw [hM, lr_gp hG]
  refine pm_icmp_ge (off := 47) 102 (by decide +kernel) (by decide) (fun (h55 : (nI (lr_n g 35)) ≤ 0) => ?_) (fun (h55 : ¬ ((nI (lr_n g 35)) ≤ 0)) => ?_)
  · refine pm_bl [(.iload 4, 2, 4, 0, 0)] (pc1 := 104) (lo1 := [some (.ref 47), some (.int x), some (.int y), some (.int z), some (.int 0), some (.int 0)]) (st1 := [.int 0]) (μ1 := pm_set μ 47 7 1) (vc := True) rfl (by decide +kernel) rfl trivial ?_
    exact pm_iret (ty := .int) rfl rfl (by decide) (by decide) (by decide +kernel) (⟨rfl, rfl⟩)
  · refine pm_bl [(.aload_n 0, 1, 0, 0, 0), (.getfield 35, 3, 10, 7, 0)] (pc1 := 62) (lo1 := [some (.ref 47), some (.int x), some (.int y), some (.int z), some (.int 0), some (.int 0)]) (st1 := [.int ((pm_set μ 47 7 1).1 47 7)]) (μ1 := pm_set μ 47 7 1) (vc := True) rfl (by decide +kernel) rfl trivial ?_
    rw [show (pm_set μ 47 7 1).1 47 7 = 1 from by rw [pm_set_hit] <;> omega]
    refine pm_if_ne (off := 40) 102 (by decide +kernel) (by decide) (fun _ => ?_) (fun h9 => absurd h9 (by decide))
    refine pm_bl [(.iload 4, 2, 4, 0, 0)] (pc1 := 104) (lo1 := [some (.ref 47), some (.int x), some (.int y), some (.int z), some (.int 0), some (.int 0)]) (st1 := [.int 0]) (μ1 := pm_set μ 47 7 1) (vc := True) rfl (by decide +kernel) rfl trivial ?_
    exact pm_iret (ty := .int) rfl rfl (by decide) (by decide) (by decide +kernel) (⟨rfl, rfl⟩)
set_option maxHeartbeats 4000000 in
set_option maxRecDepth 100000 in
theorem c_X10_residents_no1b {g : Nat → Int32} {h : Nat} {x : Int32} (z : Int32) (μ : pm_Mm) (hM : μ.1 48 = g) (hG : lr_G g) (hh : h < lr_n g 2) (hb : lr_be x (nI (lr_n g 2)) = false) : pm_CT mi_X10_residents [.ref 47, .int (nI h), .int x, .int z] μ (fun v μ2 => v = some (.int 0) ∧ μ2 = pm_set μ 47 7 1) pm_NX := by
  refine pm_CT_of (lo := [some (.ref 47), some (.int (nI h)), some (.int x), some (.int z), none, none]) (by decide +kernel) rfl rfl (by intro v hv; simp at hv; rcases hv with rfl | rfl | rfl | rfl <;> rfl) (Nat.le_of_ble_eq_true rfl) rfl ?_
  have hm1 := lr_mh hG; have hm2 := lr_mw hG; have hm3 := lr_mp hG; have hm4 := lr_mr hG; have hm5 := lr_ma hG; have hm6 := lr_ml hG
  refine pm_bl [(.aload_n 0, 1, 0, 0, 0), (.aload_n 0, 1, 0, 0, 0), (.iload_n 1, 1, 1, 0, 0)] (pc1 := 3) (lo1 := [some (.ref 47), some (.int (nI h)), some (.int x), some (.int z), none, none]) (st1 := [.int (nI h), .ref 47, .ref 47]) (μ1 := μ) (vc := True) rfl (by decide +kernel) rfl trivial ?_
  refine pm_callV2 mi_X10_isHouse (ix := 70) (b := 47) (ci := 10) (kc2 := 0) (ks2 := 0) (As := [.int (nI h)]) (rest := [.ref 47]) (c_X10_isHouse (nI h) μ hM hG) cal_X10_isHouse lk10_70 (by decide +kernel) rfl (by decide +kernel) rfl rfl rfl rfl (Nat.le_of_ble_eq_true rfl) (by decide) (by decide) (fun _ _ h9 => h9.elim) ?_
  rintro _ _ ⟨rfl, h9⟩; rw [h9]; clear h9
  show pm_V _ _ _ _ 6 _ [.int (lr_b (lr_be (nI h) (nI (lr_n g 2)))), .ref 47] _
  refine pm_ifb_eq (off := 11) 17 (by decide +kernel) (by decide) (fun (h9 : (lr_be (nI h) (nI (lr_n g 2))) = false) => absurd (h9.symm.trans (lr_be_1 hh (by omega))) (by decide)) (fun (h6 : (lr_be (nI h) (nI (lr_n g 2))) = true) => ?_)
  refine pm_bl [(.aload_n 0, 1, 0, 0, 0), (.iload_n 2, 1, 2, 0, 0)] (pc1 := 11) (lo1 := [some (.ref 47), some (.int (nI h)), some (.int x), some (.int z), none, none]) (st1 := [.int x, .ref 47, .ref 47]) (μ1 := μ) (vc := True) rfl (by decide +kernel) rfl trivial ?_
  refine pm_callV2 mi_X10_isHouse (ix := 70) (b := 47) (ci := 10) (kc2 := 0) (ks2 := 0) (As := [.int x]) (rest := [.ref 47]) (c_X10_isHouse x μ hM hG) cal_X10_isHouse lk10_70 (by decide +kernel) rfl (by decide +kernel) rfl rfl rfl rfl (Nat.le_of_ble_eq_true rfl) (by decide) (by decide) (fun _ _ h9 => h9.elim) ?_
  rintro _ _ ⟨rfl, h9⟩; rw [h9]; clear h9
  show pm_V _ _ _ _ 14 _ [.int (lr_b (lr_be x (nI (lr_n g 2)))), .ref 47] _
  refine pm_ifb_ne (off := 7) 21 (by decide +kernel) (by decide) (fun (h9 : (lr_be x (nI (lr_n g 2))) = true) => absurd (hb.symm.trans h9) (by decide)) (fun (h14 : (lr_be x (nI (lr_n g 2))) = false) => ?_)
  refine pm_bl [(.iconst 1, 1, 0, 0, 1), (.goto 19, 3, 37, 0, 0), (.putfield 35, 3, 10, 7, 0), (.iconst 0, 1, 0, 0, 0), (.istore 4, 2, 4, 0, 0), (.iconst 0, 1, 0, 0, 0), (.istore 5, 2, 5, 0, 0), (.iload 5, 2, 5, 0, 0), (.aload_n 0, 1, 0, 0, 0), (.getfield 7, 3, 10, 0, 0), (.bipush 35, 2, 0, 0, 35), (.iaload, 1, 0, 0, 0)] (pc1 := 55) (lo1 := [some (.ref 47), some (.int (nI h)), some (.int x), some (.int z), some (.int 0), some (.int 0)]) (st1 := [.int ((pm_set μ 47 7 1).1 48 (35 : Int32).toNatClampNeg), .int 0]) (μ1 := pm_set μ 47 7 1) (vc := vp_in 35 620 ∧ True) rfl (by decide +kernel) rfl ⟨(by unfold vp_in; decide), trivial⟩ ?_
  try rw [show (35 : Int32).toNatClampNeg = 35 from by decide]
  rw [show (pm_set μ 47 7 1).1 48 35 = μ.1 48 35 from by rw [pm_set_miss] <;> omega]
  rw [hM, lr_gp hG]
  refine pm_icmp_ge (off := 47) 102 (by decide +kernel) (by decide) (fun (h55 : (nI (lr_n g 35)) ≤ 0) => ?_) (fun (h55 : ¬ ((nI (lr_n g 35)) ≤ 0)) => ?_)
  · refine pm_bl [(.iload 4, 2, 4, 0, 0)] (pc1 := 104) (lo1 := [some (.ref 47), some (.int (nI h)), some (.int x), some (.int z), some (.int 0), some (.int 0)]) (st1 := [.int 0]) (μ1 := pm_set μ 47 7 1) (vc := True) rfl (by decide +kernel) rfl trivial ?_
    exact pm_iret (ty := .int) rfl rfl (by decide) (by decide) (by decide +kernel) (⟨rfl, rfl⟩)
  · refine pm_bl [(.aload_n 0, 1, 0, 0, 0), (.getfield 35, 3, 10, 7, 0)] (pc1 := 62) (lo1 := [some (.ref 47), some (.int (nI h)), some (.int x), some (.int z), some (.int 0), some (.int 0)]) (st1 := [.int ((pm_set μ 47 7 1).1 47 7)]) (μ1 := pm_set μ 47 7 1) (vc := True) rfl (by decide +kernel) rfl trivial ?_
    rw [show (pm_set μ 47 7 1).1 47 7 = 1 from by rw [pm_set_hit] <;> omega]
    refine pm_if_ne (off := 40) 102 (by decide +kernel) (by decide) (fun _ => ?_) (fun h9 => absurd h9 (by decide))
    refine pm_bl [(.iload 4, 2, 4, 0, 0)] (pc1 := 104) (lo1 := [some (.ref 47), some (.int (nI h)), some (.int x), some (.int z), some (.int 0), some (.int 0)]) (st1 := [.int 0]) (μ1 := pm_set μ 47 7 1) (vc := True) rfl (by decide +kernel) rfl trivial ?_
    exact pm_iret (ty := .int) rfl rfl (by decide) (by decide) (by decide +kernel) (⟨rfl, rfl⟩)
set_option maxHeartbeats 4000000 in
set_option maxRecDepth 100000 in
theorem c_X10_residents_no2 {g : Nat → Int32} {h q : Nat} {z : Int32} (μ : pm_Mm) (hM : μ.1 48 = g) (hG : lr_G g) (hh : h < lr_n g 2) (hq2 : q < lr_n g 2) (hl : lr_in z 0 365 = false) : pm_CT mi_X10_residents [.ref 47, .int (nI h), .int (nI q), .int z] μ (fun v μ2 => v = some (.int 0) ∧ μ2 = pm_set μ 47 7 2) pm_NX := by
  refine pm_CT_of (lo := [some (.ref 47), some (.int (nI h)), some (.int (nI q)), some (.int z), none, none]) (by decide +kernel) rfl rfl (by intro v hv; simp at hv; rcases hv with rfl | rfl | rfl | rfl <;> rfl) (Nat.le_of_ble_eq_true rfl) rfl ?_
  have hm1 := lr_mh hG; have hm2 := lr_mw hG; have hm3 := lr_mp hG; have hm4 := lr_mr hG; have hm5 := lr_ma hG; have hm6 := lr_ml hG
  refine pm_bl [(.aload_n 0, 1, 0, 0, 0), (.aload_n 0, 1, 0, 0, 0), (.iload_n 1, 1, 1, 0, 0)] (pc1 := 3) (lo1 := [some (.ref 47), some (.int (nI h)), some (.int (nI q)), some (.int z), none, none]) (st1 := [.int (nI h), .ref 47, .ref 47]) (μ1 := μ) (vc := True) rfl (by decide +kernel) rfl trivial ?_
  refine pm_callV2 mi_X10_isHouse (ix := 70) (b := 47) (ci := 10) (kc2 := 0) (ks2 := 0) (As := [.int (nI h)]) (rest := [.ref 47]) (c_X10_isHouse (nI h) μ hM hG) cal_X10_isHouse lk10_70 (by decide +kernel) rfl (by decide +kernel) rfl rfl rfl rfl (Nat.le_of_ble_eq_true rfl) (by decide) (by decide) (fun _ _ h9 => h9.elim) ?_
  rintro _ _ ⟨rfl, h9⟩; rw [h9]; clear h9
  show pm_V _ _ _ _ 6 _ [.int (lr_b (lr_be (nI h) (nI (lr_n g 2)))), .ref 47] _
  refine pm_ifb_eq (off := 11) 17 (by decide +kernel) (by decide) (fun (h9 : (lr_be (nI h) (nI (lr_n g 2))) = false) => absurd (h9.symm.trans (lr_be_1 hh (by omega))) (by decide)) (fun (h6 : (lr_be (nI h) (nI (lr_n g 2))) = true) => ?_)
  refine pm_bl [(.aload_n 0, 1, 0, 0, 0), (.iload_n 2, 1, 2, 0, 0)] (pc1 := 11) (lo1 := [some (.ref 47), some (.int (nI h)), some (.int (nI q)), some (.int z), none, none]) (st1 := [.int (nI q), .ref 47, .ref 47]) (μ1 := μ) (vc := True) rfl (by decide +kernel) rfl trivial ?_
  refine pm_callV2 mi_X10_isHouse (ix := 70) (b := 47) (ci := 10) (kc2 := 0) (ks2 := 0) (As := [.int (nI q)]) (rest := [.ref 47]) (c_X10_isHouse (nI q) μ hM hG) cal_X10_isHouse lk10_70 (by decide +kernel) rfl (by decide +kernel) rfl rfl rfl rfl (Nat.le_of_ble_eq_true rfl) (by decide) (by decide) (fun _ _ h9 => h9.elim) ?_
  rintro _ _ ⟨rfl, h9⟩; rw [h9]; clear h9
  show pm_V _ _ _ _ 14 _ [.int (lr_b (lr_be (nI q) (nI (lr_n g 2)))), .ref 47] _
  refine pm_ifb_ne (off := 7) 21 (by decide +kernel) (by decide) (fun (h14 : (lr_be (nI q) (nI (lr_n g 2))) = true) => ?_) (fun (h9 : (lr_be (nI q) (nI (lr_n g 2))) = false) => absurd (h9.symm.trans (lr_be_1 hq2 (by omega))) (by decide))
  refine pm_bl [(.iload_n 3, 1, 3, 0, 0), (.iconst 0, 1, 0, 0, 0), (.sipush 365, 3, 0, 0, 365)] (pc1 := 26) (lo1 := [some (.ref 47), some (.int (nI h)), some (.int (nI q)), some (.int z), none, none]) (st1 := [.int 365, .int 0, .int z, .ref 47]) (μ1 := μ) (vc := True) rfl (by decide +kernel) rfl trivial ?_
  refine pm_callS2 mi_X10_in (ix := 45) (kc2 := 0) (ks2 := 0) (As := [.int z, .int 0, .int 365]) (rest := [.ref 47]) (c_X10_in z 0 365 μ) cal_X10_in lk10_45 (by decide +kernel) rfl (by decide +kernel) rfl rfl (Nat.le_of_ble_eq_true rfl) (by decide) (by decide) (fun _ _ h9 => h9.elim) ?_
  rintro _ _ ⟨rfl, h9⟩; rw [h9]; clear h9
  show pm_V _ _ _ _ 29 _ [.int (lr_b (lr_in z 0 365)), .ref 47] _
  refine pm_ifb_eq (off := 7) 36 (by decide +kernel) (by decide) (fun (h29 : (lr_in z 0 365) = false) => ?_) (fun (h9 : (lr_in z 0 365) = true) => absurd (hl.symm.trans h9) (by decide))
  refine pm_bl [(.iconst 2, 1, 0, 0, 2), (.putfield 35, 3, 10, 7, 0), (.iconst 0, 1, 0, 0, 0), (.istore 4, 2, 4, 0, 0), (.iconst 0, 1, 0, 0, 0), (.istore 5, 2, 5, 0, 0), (.iload 5, 2, 5, 0, 0), (.aload_n 0, 1, 0, 0, 0), (.getfield 7, 3, 10, 0, 0), (.bipush 35, 2, 0, 0, 35), (.iaload, 1, 0, 0, 0)] (pc1 := 55) (lo1 := [some (.ref 47), some (.int (nI h)), some (.int (nI q)), some (.int z), some (.int 0), some (.int 0)]) (st1 := [.int ((pm_set μ 47 7 2).1 48 (35 : Int32).toNatClampNeg), .int 0]) (μ1 := pm_set μ 47 7 2) (vc := vp_in 35 620 ∧ True) rfl (by decide +kernel) rfl ⟨(by unfold vp_in; decide), trivial⟩ ?_
  try rw [show (35 : Int32).toNatClampNeg = 35 from by decide]
  rw [show (pm_set μ 47 7 2).1 48 35 = μ.1 48 35 from by rw [pm_set_miss] <;> omega]
  rw [hM, lr_gp hG]
  refine pm_icmp_ge (off := 47) 102 (by decide +kernel) (by decide) (fun (h55 : (nI (lr_n g 35)) ≤ 0) => ?_) (fun (h55 : ¬ ((nI (lr_n g 35)) ≤ 0)) => ?_)
  · refine pm_bl [(.iload 4, 2, 4, 0, 0)] (pc1 := 104) (lo1 := [some (.ref 47), some (.int (nI h)), some (.int (nI q)), some (.int z), some (.int 0), some (.int 0)]) (st1 := [.int 0]) (μ1 := pm_set μ 47 7 2) (vc := True) rfl (by decide +kernel) rfl trivial ?_
    exact pm_iret (ty := .int) rfl rfl (by decide) (by decide) (by decide +kernel) (⟨rfl, rfl⟩)
  · refine pm_bl [(.aload_n 0, 1, 0, 0, 0), (.getfield 35, 3, 10, 7, 0)] (pc1 := 62) (lo1 := [some (.ref 47), some (.int (nI h)), some (.int (nI q)), some (.int z), some (.int 0), some (.int 0)]) (st1 := [.int ((pm_set μ 47 7 2).1 47 7)]) (μ1 := pm_set μ 47 7 2) (vc := True) rfl (by decide +kernel) rfl trivial ?_
    rw [show (pm_set μ 47 7 2).1 47 7 = 2 from by rw [pm_set_hit] <;> omega]
    refine pm_if_ne (off := 40) 102 (by decide +kernel) (by decide) (fun _ => ?_) (fun h9 => absurd h9 (by decide))
    refine pm_bl [(.iload 4, 2, 4, 0, 0)] (pc1 := 104) (lo1 := [some (.ref 47), some (.int (nI h)), some (.int (nI q)), some (.int z), some (.int 0), some (.int 0)]) (st1 := [.int 0]) (μ1 := pm_set μ 47 7 2) (vc := True) rfl (by decide +kernel) rfl trivial ?_
    exact pm_iret (ty := .int) rfl rfl (by decide) (by decide) (by decide +kernel) (⟨rfl, rfl⟩)
set_option maxHeartbeats 4000000 in
set_option maxRecDepth 100000 in
theorem c_X10_residents {g : Nat → Int32} {h q d : Nat} {dy : Int32} (μ : pm_Mm) (hM : μ.1 48 = g) (hG : lr_G g) (hh : h < lr_n g 2) (hq2 : q < lr_n g 2) (hX : lr_X g) (hdy : dy = nI d) (hd : d ≤ 365) : pm_CT mi_X10_residents [.ref 47, .int (nI h), .int (nI q), .int dy] μ (fun v μ2 => v = some (.int (lr_res g (nI h) (nI q) dy)) ∧ μ2 = pm_set μ 47 7 0) pm_NX := by
  refine pm_CT_of (lo := [some (.ref 47), some (.int (nI h)), some (.int (nI q)), some (.int dy), none, none]) (by decide +kernel) rfl rfl (by intro v hv; simp at hv; rcases hv with rfl | rfl | rfl | rfl <;> rfl) (Nat.le_of_ble_eq_true rfl) rfl ?_
  have hm1 := lr_mh hG; have hm2 := lr_mw hG; have hm3 := lr_mp hG; have hm4 := lr_mr hG; have hm5 := lr_ma hG; have hm6 := lr_ml hG
  refine pm_bl [(.aload_n 0, 1, 0, 0, 0), (.aload_n 0, 1, 0, 0, 0), (.iload_n 1, 1, 1, 0, 0)] (pc1 := 3) (lo1 := [some (.ref 47), some (.int (nI h)), some (.int (nI q)), some (.int dy), none, none]) (st1 := [.int (nI h), .ref 47, .ref 47]) (μ1 := μ) (vc := True) rfl (by decide +kernel) rfl trivial ?_
  refine pm_callV2 mi_X10_isHouse (ix := 70) (b := 47) (ci := 10) (kc2 := 0) (ks2 := 0) (As := [.int (nI h)]) (rest := [.ref 47]) (c_X10_isHouse (nI h) μ hM hG) cal_X10_isHouse lk10_70 (by decide +kernel) rfl (by decide +kernel) rfl rfl rfl rfl (Nat.le_of_ble_eq_true rfl) (by decide) (by decide) (fun _ _ h9 => h9.elim) ?_
  rintro _ _ ⟨rfl, h9⟩; rw [h9]; clear h9
  show pm_V _ _ _ _ 6 _ [.int (lr_b (lr_be (nI h) (nI (lr_n g 2)))), .ref 47] _
  refine pm_ifb_eq (off := 11) 17 (by decide +kernel) (by decide) (fun (h9 : (lr_be (nI h) (nI (lr_n g 2))) = false) => absurd (h9.symm.trans (lr_be_1 hh (by omega))) (by decide)) (fun (h6 : (lr_be (nI h) (nI (lr_n g 2))) = true) => ?_)
  refine pm_bl [(.aload_n 0, 1, 0, 0, 0), (.iload_n 2, 1, 2, 0, 0)] (pc1 := 11) (lo1 := [some (.ref 47), some (.int (nI h)), some (.int (nI q)), some (.int dy), none, none]) (st1 := [.int (nI q), .ref 47, .ref 47]) (μ1 := μ) (vc := True) rfl (by decide +kernel) rfl trivial ?_
  refine pm_callV2 mi_X10_isHouse (ix := 70) (b := 47) (ci := 10) (kc2 := 0) (ks2 := 0) (As := [.int (nI q)]) (rest := [.ref 47]) (c_X10_isHouse (nI q) μ hM hG) cal_X10_isHouse lk10_70 (by decide +kernel) rfl (by decide +kernel) rfl rfl rfl rfl (Nat.le_of_ble_eq_true rfl) (by decide) (by decide) (fun _ _ h9 => h9.elim) ?_
  rintro _ _ ⟨rfl, h9⟩; rw [h9]; clear h9
  show pm_V _ _ _ _ 14 _ [.int (lr_b (lr_be (nI q) (nI (lr_n g 2)))), .ref 47] _
  refine pm_ifb_ne (off := 7) 21 (by decide +kernel) (by decide) (fun (h14 : (lr_be (nI q) (nI (lr_n g 2))) = true) => ?_) (fun (h9 : (lr_be (nI q) (nI (lr_n g 2))) = false) => absurd (h9.symm.trans (lr_be_1 hq2 (by omega))) (by decide))
  refine pm_bl [(.iload_n 3, 1, 3, 0, 0), (.iconst 0, 1, 0, 0, 0), (.sipush 365, 3, 0, 0, 365)] (pc1 := 26) (lo1 := [some (.ref 47), some (.int (nI h)), some (.int (nI q)), some (.int dy), none, none]) (st1 := [.int 365, .int 0, .int dy, .ref 47]) (μ1 := μ) (vc := True) rfl (by decide +kernel) rfl trivial ?_
  refine pm_callS2 mi_X10_in (ix := 45) (kc2 := 0) (ks2 := 0) (As := [.int dy, .int 0, .int 365]) (rest := [.ref 47]) (c_X10_in dy 0 365 μ) cal_X10_in lk10_45 (by decide +kernel) rfl (by decide +kernel) rfl rfl (Nat.le_of_ble_eq_true rfl) (by decide) (by decide) (fun _ _ h9 => h9.elim) ?_
  rintro _ _ ⟨rfl, h9⟩; rw [h9]; clear h9
  show pm_V _ _ _ _ 29 _ [.int (lr_b (lr_in dy 0 365)), .ref 47] _
  refine pm_ifb_eq (off := 7) 36 (by decide +kernel) (by decide) (fun (h9 : (lr_in dy 0 365) = false) => absurd (h9.symm.trans (lr_in_d hdy hd)) (by decide)) (fun (h29 : (lr_in dy 0 365) = true) => ?_)
  refine pm_bl [(.iconst 0, 1, 0, 0, 0), (.goto 4, 3, 37, 0, 0), (.putfield 35, 3, 10, 7, 0), (.iconst 0, 1, 0, 0, 0), (.istore 4, 2, 4, 0, 0), (.iconst 0, 1, 0, 0, 0), (.istore 5, 2, 5, 0, 0)] (pc1 := 46) (lo1 := [some (.ref 47), some (.int (nI h)), some (.int (nI q)), some (.int dy), some (.int 0), some (.int 0)]) (st1 := []) (μ1 := pm_set μ 47 7 0) (vc := True) rfl (by decide +kernel) rfl trivial ?_
  exact l_X10_residents (d := d) (nI h) (nI q) dy _ (by rw [pm_set_off (by decide)]; exact hM) hG hX hdy hd pm_set_hit (lr_n g 35) 0 0 (Nat.zero_add _) rfl
