/-! an office copied: from one place of the list to another -/
theorem lr_ex : True := trivial
set_option maxHeartbeats 4000000 in
set_option maxRecDepth 100000 in
theorem c_X3_copyFrom_96_1 {g : Nat → Int32} (μ : pm_Mm) (hX : lr_Rh μ.1 1 g) (hn : lr_n g 2 ≤ 16) : pm_CT mi_X3_copyFrom [.ref 97, .ref 2] μ (fun v μ2 => v = none ∧ μ2.2 = μ.2 ∧ (∀ i, (i < 97 ∨ 99 < i) → μ2.1 i = μ.1 i) ∧ lr_Rh μ2.1 96 g) pm_NX := by
  refine pm_CT_of (lo := [some (.ref 97), some (.ref 2)]) (by decide +kernel) rfl rfl (by intro v hv; simp at hv; rcases hv with rfl | rfl <;> rfl) (Nat.le_of_ble_eq_true rfl) rfl ?_
  refine pm_bl [(.aload_n 0, 1, 0, 0, 0), (.aload_n 1, 1, 1, 0, 0), (.getfield 9, 3, 3, 0, 0), (.putfield 9, 3, 3, 0, 0), (.aload_n 1, 1, 1, 0, 0), (.getfield 15, 3, 3, 1, 0), (.aload_n 0, 1, 0, 0, 0), (.getfield 15, 3, 3, 1, 0)] (pc1 := 16) (lo1 := [some (.ref 97), some (.ref 2)]) (st1 := [.ref 98, .ref 3]) (μ1 := pm_set μ 97 0 (μ.1 2 0)) (vc := True) rfl (by decide +kernel) rfl trivial ?_
  refine pm_callSN2 mi_X9_copyRow (ix := 22) (host := RX9) (kc2 := 0) (ks2 := 0) (As := [.ref 3, .ref 98]) (rest := []) (c_X9_copyRow (a := 3) (b := 98) (n := 16) (pm_set μ 97 0 (μ.1 2 0)) rfl rfl (by decide)) cal_X9_copyRow (by decide +kernel) (by decide +kernel) (by decide +kernel) rfl rfl (Nat.le_of_ble_eq_true rfl) (by decide) (by decide) ?_
  rintro _ μ1 ⟨rfl, e1⟩
  show pm_V _ _ _ _ 19 _ [] _
  refine pm_bl [(.aload_n 1, 1, 1, 0, 0), (.getfield 19, 3, 3, 2, 0), (.aload_n 0, 1, 0, 0, 0), (.getfield 19, 3, 3, 2, 0)] (pc1 := 27) (lo1 := [some (.ref 97), some (.ref 2)]) (st1 := [.ref 99, .ref 4]) (μ1 := μ1) (vc := True) rfl (by decide +kernel) rfl trivial ?_
  refine pm_callSN2 mi_X9_copyRow (ix := 22) (host := RX9) (kc2 := 0) (ks2 := 0) (As := [.ref 4, .ref 99]) (rest := []) (c_X9_copyRow (a := 4) (b := 99) (n := 16) μ1 rfl rfl (by decide)) cal_X9_copyRow (by decide +kernel) (by decide +kernel) (by decide +kernel) rfl rfl (Nat.le_of_ble_eq_true rfl) (by decide) (by decide) ?_
  rintro _ μ2 ⟨rfl, e2⟩
  show pm_V _ _ _ _ 30 _ [] _
  exact pm_vret rfl (by decide) (by decide) (by decide +kernel) (by
    subst e1; subst e2
    refine ⟨rfl, rfl, fun i hi => by rw [pm_row_off (by omega), pm_row_off (by omega), pm_set_off (by omega)], lr_Rh.mv (b := 1) (b2 := 96) hX hn (by simp only [Nat.reduceAdd]; rw [pm_row_off (by decide), pm_row_off (by decide), pm_set_hit]) (fun k i h1 h2 h3 => ?_) (fun _ _ _ => rfl)⟩
    rcases (show k = 2 ∨ k = 3 by omega) with rfl | rfl
    · simp only [Nat.reduceAdd]; rw [pm_row_off (by decide), pm_row_at]; unfold va_cpy; rw [if_pos (by omega), pm_set_off (by decide), show 0 + (i - 0) = i from by omega]
    · simp only [Nat.reduceAdd]; rw [pm_row_at]; unfold va_cpy; rw [if_pos (by omega), pm_row_off (by decide), pm_set_off (by decide), show 0 + (i - 0) = i from by omega])
set_option maxHeartbeats 4000000 in
set_option maxRecDepth 100000 in
theorem c_X6_copyFrom_96_1 {g : Nat → Int32} (μ : pm_Mm) (hX : lr_Rp μ.1 1 g) (hn : lr_n g 35 ≤ 20) : pm_CT mi_X6_copyFrom [.ref 100, .ref 5] μ (fun v μ2 => v = none ∧ μ2.2 = μ.2 ∧ (∀ i, (i < 100 ∨ 104 < i) → μ2.1 i = μ.1 i) ∧ lr_Rp μ2.1 96 g) pm_NX := by
  refine pm_CT_of (lo := [some (.ref 100), some (.ref 5)]) (by decide +kernel) rfl rfl (by intro v hv; simp at hv; rcases hv with rfl | rfl <;> rfl) (Nat.le_of_ble_eq_true rfl) rfl ?_
  refine pm_bl [(.aload_n 0, 1, 0, 0, 0), (.aload_n 1, 1, 1, 0, 0), (.getfield 9, 3, 6, 0, 0), (.putfield 9, 3, 6, 0, 0), (.aload_n 1, 1, 1, 0, 0), (.getfield 15, 3, 6, 1, 0), (.aload_n 0, 1, 0, 0, 0), (.getfield 15, 3, 6, 1, 0)] (pc1 := 16) (lo1 := [some (.ref 100), some (.ref 5)]) (st1 := [.ref 101, .ref 6]) (μ1 := pm_set μ 100 0 (μ.1 5 0)) (vc := True) rfl (by decide +kernel) rfl trivial ?_
  refine pm_callSN2 mi_X9_copyRow (ix := 28) (host := RX9) (kc2 := 0) (ks2 := 0) (As := [.ref 6, .ref 101]) (rest := []) (c_X9_copyRow (a := 6) (b := 101) (n := 20) (pm_set μ 100 0 (μ.1 5 0)) rfl rfl (by decide)) cal_X9_copyRow (by decide +kernel) (by decide +kernel) (by decide +kernel) rfl rfl (Nat.le_of_ble_eq_true rfl) (by decide) (by decide) ?_
  rintro _ μ1 ⟨rfl, e1⟩
  show pm_V _ _ _ _ 19 _ [] _
  refine pm_bl [(.aload_n 1, 1, 1, 0, 0), (.getfield 19, 3, 6, 2, 0), (.aload_n 0, 1, 0, 0, 0), (.getfield 19, 3, 6, 2, 0)] (pc1 := 27) (lo1 := [some (.ref 100), some (.ref 5)]) (st1 := [.ref 102, .ref 7]) (μ1 := μ1) (vc := True) rfl (by decide +kernel) rfl trivial ?_
  refine pm_callSN2 mi_X9_copyRow (ix := 28) (host := RX9) (kc2 := 0) (ks2 := 0) (As := [.ref 7, .ref 102]) (rest := []) (c_X9_copyRow (a := 7) (b := 102) (n := 20) μ1 rfl rfl (by decide)) cal_X9_copyRow (by decide +kernel) (by decide +kernel) (by decide +kernel) rfl rfl (Nat.le_of_ble_eq_true rfl) (by decide) (by decide) ?_
  rintro _ μ2 ⟨rfl, e2⟩
  show pm_V _ _ _ _ 30 _ [] _
  refine pm_bl [(.aload_n 1, 1, 1, 0, 0), (.getfield 22, 3, 6, 3, 0), (.aload_n 0, 1, 0, 0, 0), (.getfield 22, 3, 6, 3, 0)] (pc1 := 38) (lo1 := [some (.ref 100), some (.ref 5)]) (st1 := [.ref 103, .ref 8]) (μ1 := μ2) (vc := True) rfl (by decide +kernel) rfl trivial ?_
  refine pm_callSN2 mi_X9_copyRow (ix := 28) (host := RX9) (kc2 := 0) (ks2 := 0) (As := [.ref 8, .ref 103]) (rest := []) (c_X9_copyRow (a := 8) (b := 103) (n := 20) μ2 rfl rfl (by decide)) cal_X9_copyRow (by decide +kernel) (by decide +kernel) (by decide +kernel) rfl rfl (Nat.le_of_ble_eq_true rfl) (by decide) (by decide) ?_
  rintro _ μ3 ⟨rfl, e3⟩
  show pm_V _ _ _ _ 41 _ [] _
  refine pm_bl [(.aload_n 1, 1, 1, 0, 0), (.getfield 25, 3, 6, 4, 0), (.aload_n 0, 1, 0, 0, 0), (.getfield 25, 3, 6, 4, 0)] (pc1 := 49) (lo1 := [some (.ref 100), some (.ref 5)]) (st1 := [.ref 104, .ref 9]) (μ1 := μ3) (vc := True) rfl (by decide +kernel) rfl trivial ?_
  refine pm_callSN2 mi_X9_copyRow (ix := 28) (host := RX9) (kc2 := 0) (ks2 := 0) (As := [.ref 9, .ref 104]) (rest := []) (c_X9_copyRow (a := 9) (b := 104) (n := 20) μ3 rfl rfl (by decide)) cal_X9_copyRow (by decide +kernel) (by decide +kernel) (by decide +kernel) rfl rfl (Nat.le_of_ble_eq_true rfl) (by decide) (by decide) ?_
  rintro _ μ4 ⟨rfl, e4⟩
  show pm_V _ _ _ _ 52 _ [] _
  exact pm_vret rfl (by decide) (by decide) (by decide +kernel) (by
    subst e1; subst e2; subst e3; subst e4
    refine ⟨rfl, rfl, fun i hi => by rw [pm_row_off (by omega), pm_row_off (by omega), pm_row_off (by omega), pm_row_off (by omega), pm_set_off (by omega)], lr_Rp.mv (b := 1) (b2 := 96) hX hn (by simp only [Nat.reduceAdd]; rw [pm_row_off (by decide), pm_row_off (by decide), pm_row_off (by decide), pm_row_off (by decide), pm_set_hit]) (fun k i h1 h2 h3 => ?_) (fun _ _ _ => rfl)⟩
    rcases (show k = 5 ∨ k = 6 ∨ k = 7 ∨ k = 8 by omega) with rfl | rfl | rfl | rfl
    · simp only [Nat.reduceAdd]; rw [pm_row_off (by decide), pm_row_off (by decide), pm_row_off (by decide), pm_row_at]; unfold va_cpy; rw [if_pos (by omega), pm_set_off (by decide), show 0 + (i - 0) = i from by omega]
    · simp only [Nat.reduceAdd]; rw [pm_row_off (by decide), pm_row_off (by decide), pm_row_at]; unfold va_cpy; rw [if_pos (by omega), pm_row_off (by decide), pm_set_off (by decide), show 0 + (i - 0) = i from by omega]
    · simp only [Nat.reduceAdd]; rw [pm_row_off (by decide), pm_row_at]; unfold va_cpy; rw [if_pos (by omega), pm_row_off (by decide), pm_row_off (by decide), pm_set_off (by decide), show 0 + (i - 0) = i from by omega]
    · simp only [Nat.reduceAdd]; rw [pm_row_at]; unfold va_cpy; rw [if_pos (by omega), pm_row_off (by decide), pm_row_off (by decide), pm_row_off (by decide), pm_set_off (by decide), show 0 + (i - 0) = i from by omega])
set_option maxHeartbeats 4000000 in
set_option maxRecDepth 100000 in
theorem c_X8_copyFrom_96_1 {g : Nat → Int32} (μ : pm_Mm) (hX : lr_Rw μ.1 1 g) (hn : lr_n g 116 ≤ 10) : pm_CT mi_X8_copyFrom [.ref 105, .ref 10] μ (fun v μ2 => v = none ∧ μ2.2 = μ.2 ∧ (∀ i, (i < 105 ∨ 110 < i) → μ2.1 i = μ.1 i) ∧ lr_Rw μ2.1 96 g) pm_NX := by
  refine pm_CT_of (lo := [some (.ref 105), some (.ref 10)]) (by decide +kernel) rfl rfl (by intro v hv; simp at hv; rcases hv with rfl | rfl <;> rfl) (Nat.le_of_ble_eq_true rfl) rfl ?_
  refine pm_bl [(.aload_n 0, 1, 0, 0, 0), (.aload_n 1, 1, 1, 0, 0), (.getfield 9, 3, 8, 0, 0), (.putfield 9, 3, 8, 0, 0), (.aload_n 1, 1, 1, 0, 0), (.getfield 15, 3, 8, 1, 0), (.aload_n 0, 1, 0, 0, 0), (.getfield 15, 3, 8, 1, 0)] (pc1 := 16) (lo1 := [some (.ref 105), some (.ref 10)]) (st1 := [.ref 106, .ref 11]) (μ1 := pm_set μ 105 0 (μ.1 10 0)) (vc := True) rfl (by decide +kernel) rfl trivial ?_
  refine pm_callSN2 mi_X9_copyRow (ix := 31) (host := RX9) (kc2 := 0) (ks2 := 0) (As := [.ref 11, .ref 106]) (rest := []) (c_X9_copyRow (a := 11) (b := 106) (n := 10) (pm_set μ 105 0 (μ.1 10 0)) rfl rfl (by decide)) cal_X9_copyRow (by decide +kernel) (by decide +kernel) (by decide +kernel) rfl rfl (Nat.le_of_ble_eq_true rfl) (by decide) (by decide) ?_
  rintro _ μ1 ⟨rfl, e1⟩
  show pm_V _ _ _ _ 19 _ [] _
  refine pm_bl [(.aload_n 1, 1, 1, 0, 0), (.getfield 19, 3, 8, 2, 0), (.aload_n 0, 1, 0, 0, 0), (.getfield 19, 3, 8, 2, 0)] (pc1 := 27) (lo1 := [some (.ref 105), some (.ref 10)]) (st1 := [.ref 107, .ref 12]) (μ1 := μ1) (vc := True) rfl (by decide +kernel) rfl trivial ?_
  refine pm_callSN2 mi_X9_copyRow (ix := 31) (host := RX9) (kc2 := 0) (ks2 := 0) (As := [.ref 12, .ref 107]) (rest := []) (c_X9_copyRow (a := 12) (b := 107) (n := 10) μ1 rfl rfl (by decide)) cal_X9_copyRow (by decide +kernel) (by decide +kernel) (by decide +kernel) rfl rfl (Nat.le_of_ble_eq_true rfl) (by decide) (by decide) ?_
  rintro _ μ2 ⟨rfl, e2⟩
  show pm_V _ _ _ _ 30 _ [] _
  refine pm_bl [(.aload_n 1, 1, 1, 0, 0), (.getfield 22, 3, 8, 3, 0), (.aload_n 0, 1, 0, 0, 0), (.getfield 22, 3, 8, 3, 0)] (pc1 := 38) (lo1 := [some (.ref 105), some (.ref 10)]) (st1 := [.ref 108, .ref 13]) (μ1 := μ2) (vc := True) rfl (by decide +kernel) rfl trivial ?_
  refine pm_callSN2 mi_X9_copyRow (ix := 31) (host := RX9) (kc2 := 0) (ks2 := 0) (As := [.ref 13, .ref 108]) (rest := []) (c_X9_copyRow (a := 13) (b := 108) (n := 10) μ2 rfl rfl (by decide)) cal_X9_copyRow (by decide +kernel) (by decide +kernel) (by decide +kernel) rfl rfl (Nat.le_of_ble_eq_true rfl) (by decide) (by decide) ?_
  rintro _ μ3 ⟨rfl, e3⟩
  show pm_V _ _ _ _ 41 _ [] _
  refine pm_bl [(.aload_n 1, 1, 1, 0, 0), (.getfield 25, 3, 8, 4, 0), (.aload_n 0, 1, 0, 0, 0), (.getfield 25, 3, 8, 4, 0)] (pc1 := 49) (lo1 := [some (.ref 105), some (.ref 10)]) (st1 := [.ref 109, .ref 14]) (μ1 := μ3) (vc := True) rfl (by decide +kernel) rfl trivial ?_
  refine pm_callSN2 mi_X9_copyRow (ix := 31) (host := RX9) (kc2 := 0) (ks2 := 0) (As := [.ref 14, .ref 109]) (rest := []) (c_X9_copyRow (a := 14) (b := 109) (n := 10) μ3 rfl rfl (by decide)) cal_X9_copyRow (by decide +kernel) (by decide +kernel) (by decide +kernel) rfl rfl (Nat.le_of_ble_eq_true rfl) (by decide) (by decide) ?_
  rintro _ μ4 ⟨rfl, e4⟩
  show pm_V _ _ _ _ 52 _ [] _
  refine pm_bl [(.aload_n 1, 1, 1, 0, 0), (.getfield 28, 3, 8, 5, 0), (.aload_n 0, 1, 0, 0, 0), (.getfield 28, 3, 8, 5, 0)] (pc1 := 60) (lo1 := [some (.ref 105), some (.ref 10)]) (st1 := [.ref 110, .ref 15]) (μ1 := μ4) (vc := True) rfl (by decide +kernel) rfl trivial ?_
  refine pm_callSN2 mi_X9_copyRow (ix := 31) (host := RX9) (kc2 := 0) (ks2 := 0) (As := [.ref 15, .ref 110]) (rest := []) (c_X9_copyRow (a := 15) (b := 110) (n := 10) μ4 rfl rfl (by decide)) cal_X9_copyRow (by decide +kernel) (by decide +kernel) (by decide +kernel) rfl rfl (Nat.le_of_ble_eq_true rfl) (by decide) (by decide) ?_
  rintro _ μ5 ⟨rfl, e5⟩
  show pm_V _ _ _ _ 63 _ [] _
  exact pm_vret rfl (by decide) (by decide) (by decide +kernel) (by
    subst e1; subst e2; subst e3; subst e4; subst e5
    refine ⟨rfl, rfl, fun i hi => by rw [pm_row_off (by omega), pm_row_off (by omega), pm_row_off (by omega), pm_row_off (by omega), pm_row_off (by omega), pm_set_off (by omega)], lr_Rw.mv (b := 1) (b2 := 96) hX hn (by simp only [Nat.reduceAdd]; rw [pm_row_off (by decide), pm_row_off (by decide), pm_row_off (by decide), pm_row_off (by decide), pm_row_off (by decide), pm_set_hit]) (fun k i h1 h2 h3 => ?_) (fun _ _ _ => rfl)⟩
    rcases (show k = 10 ∨ k = 11 ∨ k = 12 ∨ k = 13 ∨ k = 14 by omega) with rfl | rfl | rfl | rfl | rfl
    · simp only [Nat.reduceAdd]; rw [pm_row_off (by decide), pm_row_off (by decide), pm_row_off (by decide), pm_row_off (by decide), pm_row_at]; unfold va_cpy; rw [if_pos (by omega), pm_set_off (by decide), show 0 + (i - 0) = i from by omega]
    · simp only [Nat.reduceAdd]; rw [pm_row_off (by decide), pm_row_off (by decide), pm_row_off (by decide), pm_row_at]; unfold va_cpy; rw [if_pos (by omega), pm_row_off (by decide), pm_set_off (by decide), show 0 + (i - 0) = i from by omega]
    · simp only [Nat.reduceAdd]; rw [pm_row_off (by decide), pm_row_off (by decide), pm_row_at]; unfold va_cpy; rw [if_pos (by omega), pm_row_off (by decide), pm_row_off (by decide), pm_set_off (by decide), show 0 + (i - 0) = i from by omega]
    · simp only [Nat.reduceAdd]; rw [pm_row_off (by decide), pm_row_at]; unfold va_cpy; rw [if_pos (by omega), pm_row_off (by decide), pm_row_off (by decide), pm_row_off (by decide), pm_set_off (by decide), show 0 + (i - 0) = i from by omega]
    · simp only [Nat.reduceAdd]; rw [pm_row_at]; unfold va_cpy; rw [if_pos (by omega), pm_row_off (by decide), pm_row_off (by decide), pm_row_off (by decide), pm_row_off (by decide), pm_set_off (by decide), show 0 + (i - 0) = i from by omega])
set_option maxHeartbeats 4000000 in
set_option maxRecDepth 100000 in
theorem c_X7_copyFrom_96_1 {g : Nat → Int32} (μ : pm_Mm) (hX : lr_Rr μ.1 1 g) (hn : lr_n g 167 ≤ 12) : pm_CT mi_X7_copyFrom [.ref 111, .ref 16] μ (fun v μ2 => v = none ∧ μ2.2 = μ.2 ∧ (∀ i, (i < 111 ∨ 116 < i) → μ2.1 i = μ.1 i) ∧ lr_Rr μ2.1 96 g) pm_NX := by
  refine pm_CT_of (lo := [some (.ref 111), some (.ref 16)]) (by decide +kernel) rfl rfl (by intro v hv; simp at hv; rcases hv with rfl | rfl <;> rfl) (Nat.le_of_ble_eq_true rfl) rfl ?_
  refine pm_bl [(.aload_n 0, 1, 0, 0, 0), (.aload_n 1, 1, 1, 0, 0), (.getfield 9, 3, 7, 0, 0), (.putfield 9, 3, 7, 0, 0), (.aload_n 1, 1, 1, 0, 0), (.getfield 15, 3, 7, 1, 0), (.aload_n 0, 1, 0, 0, 0), (.getfield 15, 3, 7, 1, 0)] (pc1 := 16) (lo1 := [some (.ref 111), some (.ref 16)]) (st1 := [.ref 112, .ref 17]) (μ1 := pm_set μ 111 0 (μ.1 16 0)) (vc := True) rfl (by decide +kernel) rfl trivial ?_
  refine pm_callSN2 mi_X9_copyRow (ix := 31) (host := RX9) (kc2 := 0) (ks2 := 0) (As := [.ref 17, .ref 112]) (rest := []) (c_X9_copyRow (a := 17) (b := 112) (n := 12) (pm_set μ 111 0 (μ.1 16 0)) rfl rfl (by decide)) cal_X9_copyRow (by decide +kernel) (by decide +kernel) (by decide +kernel) rfl rfl (Nat.le_of_ble_eq_true rfl) (by decide) (by decide) ?_
  rintro _ μ1 ⟨rfl, e1⟩
  show pm_V _ _ _ _ 19 _ [] _
  refine pm_bl [(.aload_n 1, 1, 1, 0, 0), (.getfield 19, 3, 7, 2, 0), (.aload_n 0, 1, 0, 0, 0), (.getfield 19, 3, 7, 2, 0)] (pc1 := 27) (lo1 := [some (.ref 111), some (.ref 16)]) (st1 := [.ref 113, .ref 18]) (μ1 := μ1) (vc := True) rfl (by decide +kernel) rfl trivial ?_
  refine pm_callSN2 mi_X9_copyRow (ix := 31) (host := RX9) (kc2 := 0) (ks2 := 0) (As := [.ref 18, .ref 113]) (rest := []) (c_X9_copyRow (a := 18) (b := 113) (n := 12) μ1 rfl rfl (by decide)) cal_X9_copyRow (by decide +kernel) (by decide +kernel) (by decide +kernel) rfl rfl (Nat.le_of_ble_eq_true rfl) (by decide) (by decide) ?_
  rintro _ μ2 ⟨rfl, e2⟩
  show pm_V _ _ _ _ 30 _ [] _
  refine pm_bl [(.aload_n 1, 1, 1, 0, 0), (.getfield 22, 3, 7, 3, 0), (.aload_n 0, 1, 0, 0, 0), (.getfield 22, 3, 7, 3, 0)] (pc1 := 38) (lo1 := [some (.ref 111), some (.ref 16)]) (st1 := [.ref 114, .ref 19]) (μ1 := μ2) (vc := True) rfl (by decide +kernel) rfl trivial ?_
  refine pm_callSN2 mi_X9_copyRow (ix := 31) (host := RX9) (kc2 := 0) (ks2 := 0) (As := [.ref 19, .ref 114]) (rest := []) (c_X9_copyRow (a := 19) (b := 114) (n := 12) μ2 rfl rfl (by decide)) cal_X9_copyRow (by decide +kernel) (by decide +kernel) (by decide +kernel) rfl rfl (Nat.le_of_ble_eq_true rfl) (by decide) (by decide) ?_
  rintro _ μ3 ⟨rfl, e3⟩
  show pm_V _ _ _ _ 41 _ [] _
  refine pm_bl [(.aload_n 1, 1, 1, 0, 0), (.getfield 25, 3, 7, 4, 0), (.aload_n 0, 1, 0, 0, 0), (.getfield 25, 3, 7, 4, 0)] (pc1 := 49) (lo1 := [some (.ref 111), some (.ref 16)]) (st1 := [.ref 115, .ref 20]) (μ1 := μ3) (vc := True) rfl (by decide +kernel) rfl trivial ?_
  refine pm_callSN2 mi_X9_copyRow (ix := 31) (host := RX9) (kc2 := 0) (ks2 := 0) (As := [.ref 20, .ref 115]) (rest := []) (c_X9_copyRow (a := 20) (b := 115) (n := 12) μ3 rfl rfl (by decide)) cal_X9_copyRow (by decide +kernel) (by decide +kernel) (by decide +kernel) rfl rfl (Nat.le_of_ble_eq_true rfl) (by decide) (by decide) ?_
  rintro _ μ4 ⟨rfl, e4⟩
  show pm_V _ _ _ _ 52 _ [] _
  refine pm_bl [(.aload_n 1, 1, 1, 0, 0), (.getfield 28, 3, 7, 5, 0), (.aload_n 0, 1, 0, 0, 0), (.getfield 28, 3, 7, 5, 0)] (pc1 := 60) (lo1 := [some (.ref 111), some (.ref 16)]) (st1 := [.ref 116, .ref 21]) (μ1 := μ4) (vc := True) rfl (by decide +kernel) rfl trivial ?_
  refine pm_callSN2 mi_X9_copyRow (ix := 31) (host := RX9) (kc2 := 0) (ks2 := 0) (As := [.ref 21, .ref 116]) (rest := []) (c_X9_copyRow (a := 21) (b := 116) (n := 12) μ4 rfl rfl (by decide)) cal_X9_copyRow (by decide +kernel) (by decide +kernel) (by decide +kernel) rfl rfl (Nat.le_of_ble_eq_true rfl) (by decide) (by decide) ?_
  rintro _ μ5 ⟨rfl, e5⟩
  show pm_V _ _ _ _ 63 _ [] _
  exact pm_vret rfl (by decide) (by decide) (by decide +kernel) (by
    subst e1; subst e2; subst e3; subst e4; subst e5
    refine ⟨rfl, rfl, fun i hi => by rw [pm_row_off (by omega), pm_row_off (by omega), pm_row_off (by omega), pm_row_off (by omega), pm_row_off (by omega), pm_set_off (by omega)], lr_Rr.mv (b := 1) (b2 := 96) hX hn (by simp only [Nat.reduceAdd]; rw [pm_row_off (by decide), pm_row_off (by decide), pm_row_off (by decide), pm_row_off (by decide), pm_row_off (by decide), pm_set_hit]) (fun k i h1 h2 h3 => ?_) (fun _ _ _ => rfl)⟩
    rcases (show k = 16 ∨ k = 17 ∨ k = 18 ∨ k = 19 ∨ k = 20 by omega) with rfl | rfl | rfl | rfl | rfl
    · simp only [Nat.reduceAdd]; rw [pm_row_off (by decide), pm_row_off (by decide), pm_row_off (by decide), pm_row_off (by decide), pm_row_at]; unfold va_cpy; rw [if_pos (by omega), pm_set_off (by decide), show 0 + (i - 0) = i from by omega]
    · simp only [Nat.reduceAdd]; rw [pm_row_off (by decide), pm_row_off (by decide), pm_row_off (by decide), pm_row_at]; unfold va_cpy; rw [if_pos (by omega), pm_row_off (by decide), pm_set_off (by decide), show 0 + (i - 0) = i from by omega]
    · simp only [Nat.reduceAdd]; rw [pm_row_off (by decide), pm_row_off (by decide), pm_row_at]; unfold va_cpy; rw [if_pos (by omega), pm_row_off (by decide), pm_row_off (by decide), pm_set_off (by decide), show 0 + (i - 0) = i from by omega]
    · simp only [Nat.reduceAdd]; rw [pm_row_off (by decide), pm_row_at]; unfold va_cpy; rw [if_pos (by omega), pm_row_off (by decide), pm_row_off (by decide), pm_row_off (by decide), pm_set_off (by decide), show 0 + (i - 0) = i from by omega]
    · simp only [Nat.reduceAdd]; rw [pm_row_at]; unfold va_cpy; rw [if_pos (by omega), pm_row_off (by decide), pm_row_off (by decide), pm_row_off (by decide), pm_row_off (by decide), pm_set_off (by decide), show 0 + (i - 0) = i from by omega])
set_option maxHeartbeats 4000000 in
set_option maxRecDepth 100000 in
theorem c_X0_copyFrom_96_1 {g : Nat → Int32} (μ : pm_Mm) (hX : lr_Ra μ.1 1 g) (hn : lr_n g 228 ≤ 20) : pm_CT mi_X0_copyFrom [.ref 117, .ref 22] μ (fun v μ2 => v = none ∧ μ2.2 = μ.2 ∧ (∀ i, (i < 117 ∨ 120 < i) → μ2.1 i = μ.1 i) ∧ lr_Ra μ2.1 96 g) pm_NX := by
  refine pm_CT_of (lo := [some (.ref 117), some (.ref 22)]) (by decide +kernel) rfl rfl (by intro v hv; simp at hv; rcases hv with rfl | rfl <;> rfl) (Nat.le_of_ble_eq_true rfl) rfl ?_
  refine pm_bl [(.aload_n 0, 1, 0, 0, 0), (.aload_n 1, 1, 1, 0, 0), (.getfield 9, 3, 0, 0, 0), (.putfield 9, 3, 0, 0, 0), (.aload_n 1, 1, 1, 0, 0), (.getfield 15, 3, 0, 1, 0), (.aload_n 0, 1, 0, 0, 0), (.getfield 15, 3, 0, 1, 0)] (pc1 := 16) (lo1 := [some (.ref 117), some (.ref 22)]) (st1 := [.ref 118, .ref 23]) (μ1 := pm_set μ 117 0 (μ.1 22 0)) (vc := True) rfl (by decide +kernel) rfl trivial ?_
  refine pm_callSN2 mi_X9_copyRow (ix := 25) (host := RX9) (kc2 := 0) (ks2 := 0) (As := [.ref 23, .ref 118]) (rest := []) (c_X9_copyRow (a := 23) (b := 118) (n := 20) (pm_set μ 117 0 (μ.1 22 0)) rfl rfl (by decide)) cal_X9_copyRow (by decide +kernel) (by decide +kernel) (by decide +kernel) rfl rfl (Nat.le_of_ble_eq_true rfl) (by decide) (by decide) ?_
  rintro _ μ1 ⟨rfl, e1⟩
  show pm_V _ _ _ _ 19 _ [] _
  refine pm_bl [(.aload_n 1, 1, 1, 0, 0), (.getfield 19, 3, 0, 2, 0), (.aload_n 0, 1, 0, 0, 0), (.getfield 19, 3, 0, 2, 0)] (pc1 := 27) (lo1 := [some (.ref 117), some (.ref 22)]) (st1 := [.ref 119, .ref 24]) (μ1 := μ1) (vc := True) rfl (by decide +kernel) rfl trivial ?_
  refine pm_callSN2 mi_X9_copyRow (ix := 25) (host := RX9) (kc2 := 0) (ks2 := 0) (As := [.ref 24, .ref 119]) (rest := []) (c_X9_copyRow (a := 24) (b := 119) (n := 20) μ1 rfl rfl (by decide)) cal_X9_copyRow (by decide +kernel) (by decide +kernel) (by decide +kernel) rfl rfl (Nat.le_of_ble_eq_true rfl) (by decide) (by decide) ?_
  rintro _ μ2 ⟨rfl, e2⟩
  show pm_V _ _ _ _ 30 _ [] _
  refine pm_bl [(.aload_n 1, 1, 1, 0, 0), (.getfield 22, 3, 0, 3, 0), (.aload_n 0, 1, 0, 0, 0), (.getfield 22, 3, 0, 3, 0)] (pc1 := 38) (lo1 := [some (.ref 117), some (.ref 22)]) (st1 := [.ref 120, .ref 25]) (μ1 := μ2) (vc := True) rfl (by decide +kernel) rfl trivial ?_
  refine pm_callSN2 mi_X9_copyRow (ix := 25) (host := RX9) (kc2 := 0) (ks2 := 0) (As := [.ref 25, .ref 120]) (rest := []) (c_X9_copyRow (a := 25) (b := 120) (n := 20) μ2 rfl rfl (by decide)) cal_X9_copyRow (by decide +kernel) (by decide +kernel) (by decide +kernel) rfl rfl (Nat.le_of_ble_eq_true rfl) (by decide) (by decide) ?_
  rintro _ μ3 ⟨rfl, e3⟩
  show pm_V _ _ _ _ 41 _ [] _
  exact pm_vret rfl (by decide) (by decide) (by decide +kernel) (by
    subst e1; subst e2; subst e3
    refine ⟨rfl, rfl, fun i hi => by rw [pm_row_off (by omega), pm_row_off (by omega), pm_row_off (by omega), pm_set_off (by omega)], lr_Ra.mv (b := 1) (b2 := 96) hX hn (by simp only [Nat.reduceAdd]; rw [pm_row_off (by decide), pm_row_off (by decide), pm_row_off (by decide), pm_set_hit]) (fun k i h1 h2 h3 => ?_) (fun _ _ _ => rfl)⟩
    rcases (show k = 22 ∨ k = 23 ∨ k = 24 by omega) with rfl | rfl | rfl
    · simp only [Nat.reduceAdd]; rw [pm_row_off (by decide), pm_row_off (by decide), pm_row_at]; unfold va_cpy; rw [if_pos (by omega), pm_set_off (by decide), show 0 + (i - 0) = i from by omega]
    · simp only [Nat.reduceAdd]; rw [pm_row_off (by decide), pm_row_at]; unfold va_cpy; rw [if_pos (by omega), pm_row_off (by decide), pm_set_off (by decide), show 0 + (i - 0) = i from by omega]
    · simp only [Nat.reduceAdd]; rw [pm_row_at]; unfold va_cpy; rw [if_pos (by omega), pm_row_off (by decide), pm_row_off (by decide), pm_set_off (by decide), show 0 + (i - 0) = i from by omega])
set_option maxHeartbeats 4000000 in
set_option maxRecDepth 100000 in
theorem c_X4_copyFrom_96_1 {g : Nat → Int32} (μ : pm_Mm) (hX : lr_Rl μ.1 1 g) (hn : lr_n g 289 ≤ 30) : pm_CT mi_X4_copyFrom [.ref 121, .ref 26] μ (fun v μ2 => v = none ∧ μ2.2 = μ.2 ∧ (∀ i, (i < 121 ∨ 133 < i) → μ2.1 i = μ.1 i) ∧ lr_Rl μ2.1 96 g) pm_NX := by
  refine pm_CT_of (lo := [some (.ref 121), some (.ref 26)]) (by decide +kernel) rfl rfl (by intro v hv; simp at hv; rcases hv with rfl | rfl <;> rfl) (Nat.le_of_ble_eq_true rfl) rfl ?_
  refine pm_bl [(.aload_n 0, 1, 0, 0, 0), (.aload_n 1, 1, 1, 0, 0), (.getfield 9, 3, 4, 0, 0), (.putfield 9, 3, 4, 0, 0), (.aload_n 0, 1, 0, 0, 0), (.aload_n 1, 1, 1, 0, 0), (.getfield 15, 3, 4, 1, 0), (.putfield 15, 3, 4, 1, 0), (.aload_n 1, 1, 1, 0, 0), (.getfield 18, 3, 4, 2, 0), (.aload_n 0, 1, 0, 0, 0), (.getfield 18, 3, 4, 2, 0)] (pc1 := 24) (lo1 := [some (.ref 121), some (.ref 26)]) (st1 := [.ref 122, .ref 27]) (μ1 := pm_set (pm_set μ 121 0 (μ.1 26 0)) 121 1 ((pm_set μ 121 0 (μ.1 26 0)).1 26 1)) (vc := True) rfl (by decide +kernel) rfl trivial ?_
  rw [show (pm_set μ 121 0 (μ.1 26 0)).1 26 1 = μ.1 26 1 from by simp [pm_set]]
  refine pm_callSN2 mi_X9_copyRow (ix := 55) (host := RX9) (kc2 := 0) (ks2 := 0) (As := [.ref 27, .ref 122]) (rest := []) (c_X9_copyRow (a := 27) (b := 122) (n := 30) (pm_set (pm_set μ 121 0 (μ.1 26 0)) 121 1 (μ.1 26 1)) rfl rfl (by decide)) cal_X9_copyRow (by decide +kernel) (by decide +kernel) (by decide +kernel) rfl rfl (Nat.le_of_ble_eq_true rfl) (by decide) (by decide) ?_
  rintro _ μ1 ⟨rfl, e1⟩
  show pm_V _ _ _ _ 27 _ [] _
  refine pm_bl [(.aload_n 1, 1, 1, 0, 0), (.getfield 22, 3, 4, 3, 0), (.aload_n 0, 1, 0, 0, 0), (.getfield 22, 3, 4, 3, 0)] (pc1 := 35) (lo1 := [some (.ref 121), some (.ref 26)]) (st1 := [.ref 123, .ref 28]) (μ1 := μ1) (vc := True) rfl (by decide +kernel) rfl trivial ?_
  refine pm_callSN2 mi_X9_copyRow (ix := 55) (host := RX9) (kc2 := 0) (ks2 := 0) (As := [.ref 28, .ref 123]) (rest := []) (c_X9_copyRow (a := 28) (b := 123) (n := 30) μ1 rfl rfl (by decide)) cal_X9_copyRow (by decide +kernel) (by decide +kernel) (by decide +kernel) rfl rfl (Nat.le_of_ble_eq_true rfl) (by decide) (by decide) ?_
  rintro _ μ2 ⟨rfl, e2⟩
  show pm_V _ _ _ _ 38 _ [] _
  refine pm_bl [(.aload_n 1, 1, 1, 0, 0), (.getfield 25, 3, 4, 4, 0), (.aload_n 0, 1, 0, 0, 0), (.getfield 25, 3, 4, 4, 0)] (pc1 := 46) (lo1 := [some (.ref 121), some (.ref 26)]) (st1 := [.ref 124, .ref 29]) (μ1 := μ2) (vc := True) rfl (by decide +kernel) rfl trivial ?_
  refine pm_callSN2 mi_X9_copyRow (ix := 55) (host := RX9) (kc2 := 0) (ks2 := 0) (As := [.ref 29, .ref 124]) (rest := []) (c_X9_copyRow (a := 29) (b := 124) (n := 30) μ2 rfl rfl (by decide)) cal_X9_copyRow (by decide +kernel) (by decide +kernel) (by decide +kernel) rfl rfl (Nat.le_of_ble_eq_true rfl) (by decide) (by decide) ?_
  rintro _ μ3 ⟨rfl, e3⟩
  show pm_V _ _ _ _ 49 _ [] _
  refine pm_bl [(.aload_n 1, 1, 1, 0, 0), (.getfield 28, 3, 4, 5, 0), (.aload_n 0, 1, 0, 0, 0), (.getfield 28, 3, 4, 5, 0)] (pc1 := 57) (lo1 := [some (.ref 121), some (.ref 26)]) (st1 := [.ref 125, .ref 30]) (μ1 := μ3) (vc := True) rfl (by decide +kernel) rfl trivial ?_
  refine pm_callSN2 mi_X9_copyRow (ix := 55) (host := RX9) (kc2 := 0) (ks2 := 0) (As := [.ref 30, .ref 125]) (rest := []) (c_X9_copyRow (a := 30) (b := 125) (n := 30) μ3 rfl rfl (by decide)) cal_X9_copyRow (by decide +kernel) (by decide +kernel) (by decide +kernel) rfl rfl (Nat.le_of_ble_eq_true rfl) (by decide) (by decide) ?_
  rintro _ μ4 ⟨rfl, e4⟩
  show pm_V _ _ _ _ 60 _ [] _
  refine pm_bl [(.aload_n 1, 1, 1, 0, 0), (.getfield 31, 3, 4, 6, 0), (.aload_n 0, 1, 0, 0, 0), (.getfield 31, 3, 4, 6, 0)] (pc1 := 68) (lo1 := [some (.ref 121), some (.ref 26)]) (st1 := [.ref 126, .ref 31]) (μ1 := μ4) (vc := True) rfl (by decide +kernel) rfl trivial ?_
  refine pm_callSN2 mi_X9_copyRow (ix := 55) (host := RX9) (kc2 := 0) (ks2 := 0) (As := [.ref 31, .ref 126]) (rest := []) (c_X9_copyRow (a := 31) (b := 126) (n := 30) μ4 rfl rfl (by decide)) cal_X9_copyRow (by decide +kernel) (by decide +kernel) (by decide +kernel) rfl rfl (Nat.le_of_ble_eq_true rfl) (by decide) (by decide) ?_
  rintro _ μ5 ⟨rfl, e5⟩
  show pm_V _ _ _ _ 71 _ [] _
  refine pm_bl [(.aload_n 1, 1, 1, 0, 0), (.getfield 34, 3, 4, 7, 0), (.aload_n 0, 1, 0, 0, 0), (.getfield 34, 3, 4, 7, 0)] (pc1 := 79) (lo1 := [some (.ref 121), some (.ref 26)]) (st1 := [.ref 127, .ref 32]) (μ1 := μ5) (vc := True) rfl (by decide +kernel) rfl trivial ?_
  refine pm_callSN2 mi_X9_copyRow (ix := 55) (host := RX9) (kc2 := 0) (ks2 := 0) (As := [.ref 32, .ref 127]) (rest := []) (c_X9_copyRow (a := 32) (b := 127) (n := 30) μ5 rfl rfl (by decide)) cal_X9_copyRow (by decide +kernel) (by decide +kernel) (by decide +kernel) rfl rfl (Nat.le_of_ble_eq_true rfl) (by decide) (by decide) ?_
  rintro _ μ6 ⟨rfl, e6⟩
  show pm_V _ _ _ _ 82 _ [] _
  refine pm_bl [(.aload_n 1, 1, 1, 0, 0), (.getfield 37, 3, 4, 8, 0), (.aload_n 0, 1, 0, 0, 0), (.getfield 37, 3, 4, 8, 0)] (pc1 := 90) (lo1 := [some (.ref 121), some (.ref 26)]) (st1 := [.ref 128, .ref 33]) (μ1 := μ6) (vc := True) rfl (by decide +kernel) rfl trivial ?_
  refine pm_callSN2 mi_X9_copyRow (ix := 55) (host := RX9) (kc2 := 0) (ks2 := 0) (As := [.ref 33, .ref 128]) (rest := []) (c_X9_copyRow (a := 33) (b := 128) (n := 30) μ6 rfl rfl (by decide)) cal_X9_copyRow (by decide +kernel) (by decide +kernel) (by decide +kernel) rfl rfl (Nat.le_of_ble_eq_true rfl) (by decide) (by decide) ?_
  rintro _ μ7 ⟨rfl, e7⟩
  show pm_V _ _ _ _ 93 _ [] _
  refine pm_bl [(.aload_n 1, 1, 1, 0, 0), (.getfield 40, 3, 4, 9, 0), (.aload_n 0, 1, 0, 0, 0), (.getfield 40, 3, 4, 9, 0)] (pc1 := 101) (lo1 := [some (.ref 121), some (.ref 26)]) (st1 := [.ref 129, .ref 34]) (μ1 := μ7) (vc := True) rfl (by decide +kernel) rfl trivial ?_
  refine pm_callSN2 mi_X9_copyRow (ix := 55) (host := RX9) (kc2 := 0) (ks2 := 0) (As := [.ref 34, .ref 129]) (rest := []) (c_X9_copyRow (a := 34) (b := 129) (n := 30) μ7 rfl rfl (by decide)) cal_X9_copyRow (by decide +kernel) (by decide +kernel) (by decide +kernel) rfl rfl (Nat.le_of_ble_eq_true rfl) (by decide) (by decide) ?_
  rintro _ μ8 ⟨rfl, e8⟩
  show pm_V _ _ _ _ 104 _ [] _
  refine pm_bl [(.aload_n 1, 1, 1, 0, 0), (.getfield 43, 3, 4, 10, 0), (.aload_n 0, 1, 0, 0, 0), (.getfield 43, 3, 4, 10, 0)] (pc1 := 112) (lo1 := [some (.ref 121), some (.ref 26)]) (st1 := [.ref 130, .ref 35]) (μ1 := μ8) (vc := True) rfl (by decide +kernel) rfl trivial ?_
  refine pm_callSN2 mi_X9_copyRow (ix := 55) (host := RX9) (kc2 := 0) (ks2 := 0) (As := [.ref 35, .ref 130]) (rest := []) (c_X9_copyRow (a := 35) (b := 130) (n := 30) μ8 rfl rfl (by decide)) cal_X9_copyRow (by decide +kernel) (by decide +kernel) (by decide +kernel) rfl rfl (Nat.le_of_ble_eq_true rfl) (by decide) (by decide) ?_
  rintro _ μ9 ⟨rfl, e9⟩
  show pm_V _ _ _ _ 115 _ [] _
  refine pm_bl [(.aload_n 1, 1, 1, 0, 0), (.getfield 46, 3, 4, 11, 0), (.aload_n 0, 1, 0, 0, 0), (.getfield 46, 3, 4, 11, 0)] (pc1 := 123) (lo1 := [some (.ref 121), some (.ref 26)]) (st1 := [.ref 131, .ref 36]) (μ1 := μ9) (vc := True) rfl (by decide +kernel) rfl trivial ?_
  refine pm_callSN2 mi_X9_copyRow (ix := 55) (host := RX9) (kc2 := 0) (ks2 := 0) (As := [.ref 36, .ref 131]) (rest := []) (c_X9_copyRow (a := 36) (b := 131) (n := 30) μ9 rfl rfl (by decide)) cal_X9_copyRow (by decide +kernel) (by decide +kernel) (by decide +kernel) rfl rfl (Nat.le_of_ble_eq_true rfl) (by decide) (by decide) ?_
  rintro _ μ10 ⟨rfl, e10⟩
  show pm_V _ _ _ _ 126 _ [] _
  refine pm_bl [(.aload_n 1, 1, 1, 0, 0), (.getfield 49, 3, 4, 12, 0), (.aload_n 0, 1, 0, 0, 0), (.getfield 49, 3, 4, 12, 0)] (pc1 := 134) (lo1 := [some (.ref 121), some (.ref 26)]) (st1 := [.ref 132, .ref 37]) (μ1 := μ10) (vc := True) rfl (by decide +kernel) rfl trivial ?_
  refine pm_callSN2 mi_X9_copyRow (ix := 55) (host := RX9) (kc2 := 0) (ks2 := 0) (As := [.ref 37, .ref 132]) (rest := []) (c_X9_copyRow (a := 37) (b := 132) (n := 30) μ10 rfl rfl (by decide)) cal_X9_copyRow (by decide +kernel) (by decide +kernel) (by decide +kernel) rfl rfl (Nat.le_of_ble_eq_true rfl) (by decide) (by decide) ?_
  rintro _ μ11 ⟨rfl, e11⟩
  show pm_V _ _ _ _ 137 _ [] _
  refine pm_bl [(.aload_n 1, 1, 1, 0, 0), (.getfield 52, 3, 4, 13, 0), (.aload_n 0, 1, 0, 0, 0), (.getfield 52, 3, 4, 13, 0)] (pc1 := 145) (lo1 := [some (.ref 121), some (.ref 26)]) (st1 := [.ref 133, .ref 38]) (μ1 := μ11) (vc := True) rfl (by decide +kernel) rfl trivial ?_
  refine pm_callSN2 mi_X9_copyRow (ix := 55) (host := RX9) (kc2 := 0) (ks2 := 0) (As := [.ref 38, .ref 133]) (rest := []) (c_X9_copyRow (a := 38) (b := 133) (n := 30) μ11 rfl rfl (by decide)) cal_X9_copyRow (by decide +kernel) (by decide +kernel) (by decide +kernel) rfl rfl (Nat.le_of_ble_eq_true rfl) (by decide) (by decide) ?_
  rintro _ μ12 ⟨rfl, e12⟩
  show pm_V _ _ _ _ 148 _ [] _
  exact pm_vret rfl (by decide) (by decide) (by decide +kernel) (by
    subst e1; subst e2; subst e3; subst e4; subst e5; subst e6; subst e7; subst e8; subst e9; subst e10; subst e11; subst e12
    refine ⟨rfl, rfl, fun i hi => by rw [pm_row_off (by omega), pm_row_off (by omega), pm_row_off (by omega), pm_row_off (by omega), pm_row_off (by omega), pm_row_off (by omega), pm_row_off (by omega), pm_row_off (by omega), pm_row_off (by omega), pm_row_off (by omega), pm_row_off (by omega), pm_row_off (by omega), pm_set_off (by omega), pm_set_off (by omega)], lr_Rl.mv (b := 1) (b2 := 96) hX hn (by simp only [Nat.reduceAdd]; rw [pm_row_off (by decide), pm_row_off (by decide), pm_row_off (by decide), pm_row_off (by decide), pm_row_off (by decide), pm_row_off (by decide), pm_row_off (by decide), pm_row_off (by decide), pm_row_off (by decide), pm_row_off (by decide), pm_row_off (by decide), pm_row_off (by decide), pm_set_miss (Or.inr (by decide)), pm_set_hit]) (by simp only [Nat.reduceAdd]; rw [pm_row_off (by decide), pm_row_off (by decide), pm_row_off (by decide), pm_row_off (by decide), pm_row_off (by decide), pm_row_off (by decide), pm_row_off (by decide), pm_row_off (by decide), pm_row_off (by decide), pm_row_off (by decide), pm_row_off (by decide), pm_row_off (by decide), pm_set_hit]) (fun k i h1 h2 h3 => ?_) (fun _ _ _ => rfl) rfl⟩
    rcases (show k = 26 ∨ k = 27 ∨ k = 28 ∨ k = 29 ∨ k = 30 ∨ k = 31 ∨ k = 32 ∨ k = 33 ∨ k = 34 ∨ k = 35 ∨ k = 36 ∨ k = 37 by omega) with rfl | rfl | rfl | rfl | rfl | rfl | rfl | rfl | rfl | rfl | rfl | rfl
    · simp only [Nat.reduceAdd]; rw [pm_row_off (by decide), pm_row_off (by decide), pm_row_off (by decide), pm_row_off (by decide), pm_row_off (by decide), pm_row_off (by decide), pm_row_off (by decide), pm_row_off (by decide), pm_row_off (by decide), pm_row_off (by decide), pm_row_off (by decide), pm_row_at]; unfold va_cpy; rw [if_pos (by omega), pm_set_off (by decide), pm_set_off (by decide), show 0 + (i - 0) = i from by omega]
    · simp only [Nat.reduceAdd]; rw [pm_row_off (by decide), pm_row_off (by decide), pm_row_off (by decide), pm_row_off (by decide), pm_row_off (by decide), pm_row_off (by decide), pm_row_off (by decide), pm_row_off (by decide), pm_row_off (by decide), pm_row_off (by decide), pm_row_at]; unfold va_cpy; rw [if_pos (by omega), pm_row_off (by decide), pm_set_off (by decide), pm_set_off (by decide), show 0 + (i - 0) = i from by omega]
    · simp only [Nat.reduceAdd]; rw [pm_row_off (by decide), pm_row_off (by decide), pm_row_off (by decide), pm_row_off (by decide), pm_row_off (by decide), pm_row_off (by decide), pm_row_off (by decide), pm_row_off (by decide), pm_row_off (by decide), pm_row_at]; unfold va_cpy; rw [if_pos (by omega), pm_row_off (by decide), pm_row_off (by decide), pm_set_off (by decide), pm_set_off (by decide), show 0 + (i - 0) = i from by omega]
    · simp only [Nat.reduceAdd]; rw [pm_row_off (by decide), pm_row_off (by decide), pm_row_off (by decide), pm_row_off (by decide), pm_row_off (by decide), pm_row_off (by decide), pm_row_off (by decide), pm_row_off (by decide), pm_row_at]; unfold va_cpy; rw [if_pos (by omega), pm_row_off (by decide), pm_row_off (by decide), pm_row_off (by decide), pm_set_off (by decide), pm_set_off (by decide), show 0 + (i - 0) = i from by omega]
    · simp only [Nat.reduceAdd]; rw [pm_row_off (by decide), pm_row_off (by decide), pm_row_off (by decide), pm_row_off (by decide), pm_row_off (by decide), pm_row_off (by decide), pm_row_off (by decide), pm_row_at]; unfold va_cpy; rw [if_pos (by omega), pm_row_off (by decide), pm_row_off (by decide), pm_row_off (by decide), pm_row_off (by decide), pm_set_off (by decide), pm_set_off (by decide), show 0 + (i - 0) = i from by omega]
    · simp only [Nat.reduceAdd]; rw [pm_row_off (by decide), pm_row_off (by decide), pm_row_off (by decide), pm_row_off (by decide), pm_row_off (by decide), pm_row_off (by decide), pm_row_at]; unfold va_cpy; rw [if_pos (by omega), pm_row_off (by decide), pm_row_off (by decide), pm_row_off (by decide), pm_row_off (by decide), pm_row_off (by decide), pm_set_off (by decide), pm_set_off (by decide), show 0 + (i - 0) = i from by omega]
    · simp only [Nat.reduceAdd]; rw [pm_row_off (by decide), pm_row_off (by decide), pm_row_off (by decide), pm_row_off (by decide), pm_row_off (by decide), pm_row_at]; unfold va_cpy; rw [if_pos (by omega), pm_row_off (by decide), pm_row_off (by decide), pm_row_off (by decide), pm_row_off (by decide), pm_row_off (by decide), pm_row_off (by decide), pm_set_off (by decide), pm_set_off (by decide), show 0 + (i - 0) = i from by omega]
    · simp only [Nat.reduceAdd]; rw [pm_row_off (by decide), pm_row_off (by decide), pm_row_off (by decide), pm_row_off (by decide), pm_row_at]; unfold va_cpy; rw [if_pos (by omega), pm_row_off (by decide), pm_row_off (by decide), pm_row_off (by decide), pm_row_off (by decide), pm_row_off (by decide), pm_row_off (by decide), pm_row_off (by decide), pm_set_off (by decide), pm_set_off (by decide), show 0 + (i - 0) = i from by omega]
    · simp only [Nat.reduceAdd]; rw [pm_row_off (by decide), pm_row_off (by decide), pm_row_off (by decide), pm_row_at]; unfold va_cpy; rw [if_pos (by omega), pm_row_off (by decide), pm_row_off (by decide), pm_row_off (by decide), pm_row_off (by decide), pm_row_off (by decide), pm_row_off (by decide), pm_row_off (by decide), pm_row_off (by decide), pm_set_off (by decide), pm_set_off (by decide), show 0 + (i - 0) = i from by omega]
    · simp only [Nat.reduceAdd]; rw [pm_row_off (by decide), pm_row_off (by decide), pm_row_at]; unfold va_cpy; rw [if_pos (by omega), pm_row_off (by decide), pm_row_off (by decide), pm_row_off (by decide), pm_row_off (by decide), pm_row_off (by decide), pm_row_off (by decide), pm_row_off (by decide), pm_row_off (by decide), pm_row_off (by decide), pm_set_off (by decide), pm_set_off (by decide), show 0 + (i - 0) = i from by omega]
    · simp only [Nat.reduceAdd]; rw [pm_row_off (by decide), pm_row_at]; unfold va_cpy; rw [if_pos (by omega), pm_row_off (by decide), pm_row_off (by decide), pm_row_off (by decide), pm_row_off (by decide), pm_row_off (by decide), pm_row_off (by decide), pm_row_off (by decide), pm_row_off (by decide), pm_row_off (by decide), pm_row_off (by decide), pm_set_off (by decide), pm_set_off (by decide), show 0 + (i - 0) = i from by omega]
    · simp only [Nat.reduceAdd]; rw [pm_row_at]; unfold va_cpy; rw [if_pos (by omega), pm_row_off (by decide), pm_row_off (by decide), pm_row_off (by decide), pm_row_off (by decide), pm_row_off (by decide), pm_row_off (by decide), pm_row_off (by decide), pm_row_off (by decide), pm_row_off (by decide), pm_row_off (by decide), pm_row_off (by decide), pm_set_off (by decide), pm_set_off (by decide), show 0 + (i - 0) = i from by omega])
set_option maxHeartbeats 4000000 in
set_option maxRecDepth 100000 in
theorem c_X5_copyFrom_96_1 {g : Nat → Int32} (μ : pm_Mm) (hR : lr_Rel μ.1 1 g) (hB : lr_B g) : pm_CT mi_X5_copyFrom [.ref 96, .ref 1] μ (fun v μ2 => v = none ∧ μ2.2 = μ.2 ∧ (∀ i, (i < 96 ∨ 134 < i) → μ2.1 i = μ.1 i) ∧ lr_Rel μ2.1 96 g) pm_NX := by
  refine pm_CT_of (lo := [some (.ref 96), some (.ref 1)]) (by decide +kernel) rfl rfl (by intro v hv; simp at hv; rcases hv with rfl | rfl <;> rfl) (Nat.le_of_ble_eq_true rfl) rfl ?_
  obtain ⟨hm1, hm3, hm2, hm4, hm5, hm6⟩ := id hB
  refine pm_bl [(.aload_n 0, 1, 0, 0, 0), (.getfield 12, 3, 5, 0, 0), (.aload_n 1, 1, 1, 0, 0), (.getfield 12, 3, 5, 0, 0)] (pc1 := 8) (lo1 := [some (.ref 96), some (.ref 1)]) (st1 := [.ref 2, .ref 97]) (μ1 := μ) (vc := True) rfl (by decide +kernel) rfl trivial ?_
  refine pm_callV2 mi_X3_copyFrom (ix := 61) (b := 97) (ci := 3) (kc2 := 0) (ks2 := 0) (As := [.ref 2]) (rest := []) (c_X3_copyFrom_96_1 μ hR.2.1 hm1) cal_X3_copyFrom lk5_61 (by decide +kernel) rfl (by decide +kernel) rfl rfl rfl rfl (Nat.le_of_ble_eq_true rfl) (by decide) (by decide) (fun _ _ h9 => h9.elim) ?_
  rintro _ μ1 ⟨rfl, x1, f1, r1⟩
  show pm_V _ _ _ _ 11 _ [] _
  refine pm_bl [(.aload_n 0, 1, 0, 0, 0), (.getfield 21, 3, 5, 1, 0), (.aload_n 1, 1, 1, 0, 0), (.getfield 21, 3, 5, 1, 0)] (pc1 := 19) (lo1 := [some (.ref 96), some (.ref 1)]) (st1 := [.ref 5, .ref 100]) (μ1 := μ1) (vc := True) rfl (by decide +kernel) rfl trivial ?_
  refine pm_callV2 mi_X6_copyFrom (ix := 65) (b := 100) (ci := 6) (kc2 := 0) (ks2 := 0) (As := [.ref 5]) (rest := []) (c_X6_copyFrom_96_1 μ1 (lr_Rp.st (b := 1) hR.2.2.1 hm3 (fun k h1 h2 => by rw [f1 _ (by omega)]) (fun _ _ _ => rfl)) hm3) cal_X6_copyFrom lk5_65 (by decide +kernel) rfl (by decide +kernel) rfl rfl rfl rfl (Nat.le_of_ble_eq_true rfl) (by decide) (by decide) (fun _ _ h9 => h9.elim) ?_
  rintro _ μ2 ⟨rfl, x2, f2, r2⟩
  show pm_V _ _ _ _ 22 _ [] _
  refine pm_bl [(.aload_n 0, 1, 0, 0, 0), (.getfield 28, 3, 5, 2, 0), (.aload_n 1, 1, 1, 0, 0), (.getfield 28, 3, 5, 2, 0)] (pc1 := 30) (lo1 := [some (.ref 96), some (.ref 1)]) (st1 := [.ref 10, .ref 105]) (μ1 := μ2) (vc := True) rfl (by decide +kernel) rfl trivial ?_
  refine pm_callV2 mi_X8_copyFrom (ix := 68) (b := 105) (ci := 8) (kc2 := 0) (ks2 := 0) (As := [.ref 10]) (rest := []) (c_X8_copyFrom_96_1 μ2 (lr_Rw.st (b := 1) hR.2.2.2.1 hm2 (fun k h1 h2 => by rw [f2 _ (by omega), f1 _ (by omega)]) (fun _ _ _ => rfl)) hm2) cal_X8_copyFrom lk5_68 (by decide +kernel) rfl (by decide +kernel) rfl rfl rfl rfl (Nat.le_of_ble_eq_true rfl) (by decide) (by decide) (fun _ _ h9 => h9.elim) ?_
  rintro _ μ3 ⟨rfl, x3, f3, r3⟩
  show pm_V _ _ _ _ 33 _ [] _
  refine pm_bl [(.aload_n 0, 1, 0, 0, 0), (.getfield 35, 3, 5, 3, 0), (.aload_n 1, 1, 1, 0, 0), (.getfield 35, 3, 5, 3, 0)] (pc1 := 41) (lo1 := [some (.ref 96), some (.ref 1)]) (st1 := [.ref 16, .ref 111]) (μ1 := μ3) (vc := True) rfl (by decide +kernel) rfl trivial ?_
  refine pm_callV2 mi_X7_copyFrom (ix := 71) (b := 111) (ci := 7) (kc2 := 0) (ks2 := 0) (As := [.ref 16]) (rest := []) (c_X7_copyFrom_96_1 μ3 (lr_Rr.st (b := 1) hR.2.2.2.2.1 hm4 (fun k h1 h2 => by rw [f3 _ (by omega), f2 _ (by omega), f1 _ (by omega)]) (fun _ _ _ => rfl)) hm4) cal_X7_copyFrom lk5_71 (by decide +kernel) rfl (by decide +kernel) rfl rfl rfl rfl (Nat.le_of_ble_eq_true rfl) (by decide) (by decide) (fun _ _ h9 => h9.elim) ?_
  rintro _ μ4 ⟨rfl, x4, f4, r4⟩
  show pm_V _ _ _ _ 44 _ [] _
  refine pm_bl [(.aload_n 0, 1, 0, 0, 0), (.getfield 42, 3, 5, 4, 0), (.aload_n 1, 1, 1, 0, 0), (.getfield 42, 3, 5, 4, 0)] (pc1 := 52) (lo1 := [some (.ref 96), some (.ref 1)]) (st1 := [.ref 22, .ref 117]) (μ1 := μ4) (vc := True) rfl (by decide +kernel) rfl trivial ?_
  refine pm_callV2 mi_X0_copyFrom (ix := 74) (b := 117) (ci := 0) (kc2 := 0) (ks2 := 0) (As := [.ref 22]) (rest := []) (c_X0_copyFrom_96_1 μ4 (lr_Ra.st (b := 1) hR.2.2.2.2.2.1 hm5 (fun k h1 h2 => by rw [f4 _ (by omega), f3 _ (by omega), f2 _ (by omega), f1 _ (by omega)]) (fun _ _ _ => rfl)) hm5) cal_X0_copyFrom lk5_74 (by decide +kernel) rfl (by decide +kernel) rfl rfl rfl rfl (Nat.le_of_ble_eq_true rfl) (by decide) (by decide) (fun _ _ h9 => h9.elim) ?_
  rintro _ μ5 ⟨rfl, x5, f5, r5⟩
  show pm_V _ _ _ _ 55 _ [] _
  refine pm_bl [(.aload_n 0, 1, 0, 0, 0), (.getfield 49, 3, 5, 5, 0), (.aload_n 1, 1, 1, 0, 0), (.getfield 49, 3, 5, 5, 0)] (pc1 := 63) (lo1 := [some (.ref 96), some (.ref 1)]) (st1 := [.ref 26, .ref 121]) (μ1 := μ5) (vc := True) rfl (by decide +kernel) rfl trivial ?_
  refine pm_callV2 mi_X4_copyFrom (ix := 77) (b := 121) (ci := 4) (kc2 := 0) (ks2 := 0) (As := [.ref 26]) (rest := []) (c_X4_copyFrom_96_1 μ5 (lr_Rl.st (b := 1) hR.2.2.2.2.2.2 hm6 (fun k h1 h2 => by rw [f5 _ (by omega), f4 _ (by omega), f3 _ (by omega), f2 _ (by omega), f1 _ (by omega)]) rfl (fun _ _ _ => rfl)) hm6) cal_X4_copyFrom lk5_77 (by decide +kernel) rfl (by decide +kernel) rfl rfl rfl rfl (Nat.le_of_ble_eq_true rfl) (by decide) (by decide) (fun _ _ h9 => h9.elim) ?_
  rintro _ μ6 ⟨rfl, x6, f6, r6⟩
  show pm_V _ _ _ _ 66 _ [] _
  refine pm_bl [(.aload_n 0, 1, 0, 0, 0), (.aload_n 1, 1, 1, 0, 0), (.getfield 53, 3, 5, 6, 0), (.putfield 53, 3, 5, 6, 0)] (pc1 := 74) (lo1 := [some (.ref 96), some (.ref 1)]) (st1 := []) (μ1 := pm_set μ6 96 6 (μ6.1 1 6)) (vc := True) rfl (by decide +kernel) rfl trivial ?_
  exact pm_vret rfl (by decide) (by decide) (by decide +kernel) (⟨rfl, (x6.trans (x5.trans (x4.trans (x3.trans (x2.trans x1))))), fun i hi => by rw [pm_set_off (by omega), f6 _ (by omega), f5 _ (by omega), f4 _ (by omega), f3 _ (by omega), f2 _ (by omega), f1 _ (by omega)], by rw [pm_set_hit, f6 _ (by omega), f5 _ (by omega), f4 _ (by omega), f3 _ (by omega), f2 _ (by omega), f1 _ (by omega)]; exact hR.1, lr_Rh.st (b := 96) r1 hm1 (fun k h1 h2 => by rw [pm_set_off (by omega), f6 _ (by omega), f5 _ (by omega), f4 _ (by omega), f3 _ (by omega), f2 _ (by omega)]) (fun _ _ _ => rfl), lr_Rp.st (b := 96) r2 hm3 (fun k h1 h2 => by rw [pm_set_off (by omega), f6 _ (by omega), f5 _ (by omega), f4 _ (by omega), f3 _ (by omega)]) (fun _ _ _ => rfl), lr_Rw.st (b := 96) r3 hm2 (fun k h1 h2 => by rw [pm_set_off (by omega), f6 _ (by omega), f5 _ (by omega), f4 _ (by omega)]) (fun _ _ _ => rfl), lr_Rr.st (b := 96) r4 hm4 (fun k h1 h2 => by rw [pm_set_off (by omega), f6 _ (by omega), f5 _ (by omega)]) (fun _ _ _ => rfl), lr_Ra.st (b := 96) r5 hm5 (fun k h1 h2 => by rw [pm_set_off (by omega), f6 _ (by omega)]) (fun _ _ _ => rfl), lr_Rl.st (b := 96) r6 hm6 (fun k h1 h2 => by rw [pm_set_off (by omega)]) rfl (fun _ _ _ => rfl)⟩)
set_option maxHeartbeats 4000000 in
set_option maxRecDepth 100000 in
theorem c_X3_copyFrom_135_1 {g : Nat → Int32} (μ : pm_Mm) (hX : lr_Rh μ.1 1 g) (hn : lr_n g 2 ≤ 16) : pm_CT mi_X3_copyFrom [.ref 136, .ref 2] μ (fun v μ2 => v = none ∧ μ2.2 = μ.2 ∧ (∀ i, (i < 136 ∨ 138 < i) → μ2.1 i = μ.1 i) ∧ lr_Rh μ2.1 135 g) pm_NX := by
  refine pm_CT_of (lo := [some (.ref 136), some (.ref 2)]) (by decide +kernel) rfl rfl (by intro v hv; simp at hv; rcases hv with rfl | rfl <;> rfl) (Nat.le_of_ble_eq_true rfl) rfl ?_
  refine pm_bl [(.aload_n 0, 1, 0, 0, 0), (.aload_n 1, 1, 1, 0, 0), (.getfield 9, 3, 3, 0, 0), (.putfield 9, 3, 3, 0, 0), (.aload_n 1, 1, 1, 0, 0), (.getfield 15, 3, 3, 1, 0), (.aload_n 0, 1, 0, 0, 0), (.getfield 15, 3, 3, 1, 0)] (pc1 := 16) (lo1 := [some (.ref 136), some (.ref 2)]) (st1 := [.ref 137, .ref 3]) (μ1 := pm_set μ 136 0 (μ.1 2 0)) (vc := True) rfl (by decide +kernel) rfl trivial ?_
  refine pm_callSN2 mi_X9_copyRow (ix := 22) (host := RX9) (kc2 := 0) (ks2 := 0) (As := [.ref 3, .ref 137]) (rest := []) (c_X9_copyRow (a := 3) (b := 137) (n := 16) (pm_set μ 136 0 (μ.1 2 0)) rfl rfl (by decide)) cal_X9_copyRow (by decide +kernel) (by decide +kernel) (by decide +kernel) rfl rfl (Nat.le_of_ble_eq_true rfl) (by decide) (by decide) ?_
  rintro _ μ1 ⟨rfl, e1⟩
  show pm_V _ _ _ _ 19 _ [] _
  refine pm_bl [(.aload_n 1, 1, 1, 0, 0), (.getfield 19, 3, 3, 2, 0), (.aload_n 0, 1, 0, 0, 0), (.getfield 19, 3, 3, 2, 0)] (pc1 := 27) (lo1 := [some (.ref 136), some (.ref 2)]) (st1 := [.ref 138, .ref 4]) (μ1 := μ1) (vc := True) rfl (by decide +kernel) rfl trivial ?_
  refine pm_callSN2 mi_X9_copyRow (ix := 22) (host := RX9) (kc2 := 0) (ks2 := 0) (As := [.ref 4, .ref 138]) (rest := []) (c_X9_copyRow (a := 4) (b := 138) (n := 16) μ1 rfl rfl (by decide)) cal_X9_copyRow (by decide +kernel) (by decide +kernel) (by decide +kernel) rfl rfl (Nat.le_of_ble_eq_true rfl) (by decide) (by decide) ?_
  rintro _ μ2 ⟨rfl, e2⟩
  show pm_V _ _ _ _ 30 _ [] _
  exact pm_vret rfl (by decide) (by decide) (by decide +kernel) (by
    subst e1; subst e2
    refine ⟨rfl, rfl, fun i hi => by rw [pm_row_off (by omega), pm_row_off (by omega), pm_set_off (by omega)], lr_Rh.mv (b := 1) (b2 := 135) hX hn (by simp only [Nat.reduceAdd]; rw [pm_row_off (by decide), pm_row_off (by decide), pm_set_hit]) (fun k i h1 h2 h3 => ?_) (fun _ _ _ => rfl)⟩
    rcases (show k = 2 ∨ k = 3 by omega) with rfl | rfl
    · simp only [Nat.reduceAdd]; rw [pm_row_off (by decide), pm_row_at]; unfold va_cpy; rw [if_pos (by omega), pm_set_off (by decide), show 0 + (i - 0) = i from by omega]
    · simp only [Nat.reduceAdd]; rw [pm_row_at]; unfold va_cpy; rw [if_pos (by omega), pm_row_off (by decide), pm_set_off (by decide), show 0 + (i - 0) = i from by omega])
set_option maxHeartbeats 4000000 in
set_option maxRecDepth 100000 in
theorem c_X6_copyFrom_135_1 {g : Nat → Int32} (μ : pm_Mm) (hX : lr_Rp μ.1 1 g) (hn : lr_n g 35 ≤ 20) : pm_CT mi_X6_copyFrom [.ref 139, .ref 5] μ (fun v μ2 => v = none ∧ μ2.2 = μ.2 ∧ (∀ i, (i < 139 ∨ 143 < i) → μ2.1 i = μ.1 i) ∧ lr_Rp μ2.1 135 g) pm_NX := by
  refine pm_CT_of (lo := [some (.ref 139), some (.ref 5)]) (by decide +kernel) rfl rfl (by intro v hv; simp at hv; rcases hv with rfl | rfl <;> rfl) (Nat.le_of_ble_eq_true rfl) rfl ?_
  refine pm_bl [(.aload_n 0, 1, 0, 0, 0), (.aload_n 1, 1, 1, 0, 0), (.getfield 9, 3, 6, 0, 0), (.putfield 9, 3, 6, 0, 0), (.aload_n 1, 1, 1, 0, 0), (.getfield 15, 3, 6, 1, 0), (.aload_n 0, 1, 0, 0, 0), (.getfield 15, 3, 6, 1, 0)] (pc1 := 16) (lo1 := [some (.ref 139), some (.ref 5)]) (st1 := [.ref 140, .ref 6]) (μ1 := pm_set μ 139 0 (μ.1 5 0)) (vc := True) rfl (by decide +kernel) rfl trivial ?_
  refine pm_callSN2 mi_X9_copyRow (ix := 28) (host := RX9) (kc2 := 0) (ks2 := 0) (As := [.ref 6, .ref 140]) (rest := []) (c_X9_copyRow (a := 6) (b := 140) (n := 20) (pm_set μ 139 0 (μ.1 5 0)) rfl rfl (by decide)) cal_X9_copyRow (by decide +kernel) (by decide +kernel) (by decide +kernel) rfl rfl (Nat.le_of_ble_eq_true rfl) (by decide) (by decide) ?_
  rintro _ μ1 ⟨rfl, e1⟩
  show pm_V _ _ _ _ 19 _ [] _
  refine pm_bl [(.aload_n 1, 1, 1, 0, 0), (.getfield 19, 3, 6, 2, 0), (.aload_n 0, 1, 0, 0, 0), (.getfield 19, 3, 6, 2, 0)] (pc1 := 27) (lo1 := [some (.ref 139), some (.ref 5)]) (st1 := [.ref 141, .ref 7]) (μ1 := μ1) (vc := True) rfl (by decide +kernel) rfl trivial ?_
  refine pm_callSN2 mi_X9_copyRow (ix := 28) (host := RX9) (kc2 := 0) (ks2 := 0) (As := [.ref 7, .ref 141]) (rest := []) (c_X9_copyRow (a := 7) (b := 141) (n := 20) μ1 rfl rfl (by decide)) cal_X9_copyRow (by decide +kernel) (by decide +kernel) (by decide +kernel) rfl rfl (Nat.le_of_ble_eq_true rfl) (by decide) (by decide) ?_
  rintro _ μ2 ⟨rfl, e2⟩
  show pm_V _ _ _ _ 30 _ [] _
  refine pm_bl [(.aload_n 1, 1, 1, 0, 0), (.getfield 22, 3, 6, 3, 0), (.aload_n 0, 1, 0, 0, 0), (.getfield 22, 3, 6, 3, 0)] (pc1 := 38) (lo1 := [some (.ref 139), some (.ref 5)]) (st1 := [.ref 142, .ref 8]) (μ1 := μ2) (vc := True) rfl (by decide +kernel) rfl trivial ?_
  refine pm_callSN2 mi_X9_copyRow (ix := 28) (host := RX9) (kc2 := 0) (ks2 := 0) (As := [.ref 8, .ref 142]) (rest := []) (c_X9_copyRow (a := 8) (b := 142) (n := 20) μ2 rfl rfl (by decide)) cal_X9_copyRow (by decide +kernel) (by decide +kernel) (by decide +kernel) rfl rfl (Nat.le_of_ble_eq_true rfl) (by decide) (by decide) ?_
  rintro _ μ3 ⟨rfl, e3⟩
  show pm_V _ _ _ _ 41 _ [] _
  refine pm_bl [(.aload_n 1, 1, 1, 0, 0), (.getfield 25, 3, 6, 4, 0), (.aload_n 0, 1, 0, 0, 0), (.getfield 25, 3, 6, 4, 0)] (pc1 := 49) (lo1 := [some (.ref 139), some (.ref 5)]) (st1 := [.ref 143, .ref 9]) (μ1 := μ3) (vc := True) rfl (by decide +kernel) rfl trivial ?_
  refine pm_callSN2 mi_X9_copyRow (ix := 28) (host := RX9) (kc2 := 0) (ks2 := 0) (As := [.ref 9, .ref 143]) (rest := []) (c_X9_copyRow (a := 9) (b := 143) (n := 20) μ3 rfl rfl (by decide)) cal_X9_copyRow (by decide +kernel) (by decide +kernel) (by decide +kernel) rfl rfl (Nat.le_of_ble_eq_true rfl) (by decide) (by decide) ?_
  rintro _ μ4 ⟨rfl, e4⟩
  show pm_V _ _ _ _ 52 _ [] _
  exact pm_vret rfl (by decide) (by decide) (by decide +kernel) (by
    subst e1; subst e2; subst e3; subst e4
    refine ⟨rfl, rfl, fun i hi => by rw [pm_row_off (by omega), pm_row_off (by omega), pm_row_off (by omega), pm_row_off (by omega), pm_set_off (by omega)], lr_Rp.mv (b := 1) (b2 := 135) hX hn (by simp only [Nat.reduceAdd]; rw [pm_row_off (by decide), pm_row_off (by decide), pm_row_off (by decide), pm_row_off (by decide), pm_set_hit]) (fun k i h1 h2 h3 => ?_) (fun _ _ _ => rfl)⟩
    rcases (show k = 5 ∨ k = 6 ∨ k = 7 ∨ k = 8 by omega) with rfl | rfl | rfl | rfl
    · simp only [Nat.reduceAdd]; rw [pm_row_off (by decide), pm_row_off (by decide), pm_row_off (by decide), pm_row_at]; unfold va_cpy; rw [if_pos (by omega), pm_set_off (by decide), show 0 + (i - 0) = i from by omega]
    · simp only [Nat.reduceAdd]; rw [pm_row_off (by decide), pm_row_off (by decide), pm_row_at]; unfold va_cpy; rw [if_pos (by omega), pm_row_off (by decide), pm_set_off (by decide), show 0 + (i - 0) = i from by omega]
    · simp only [Nat.reduceAdd]; rw [pm_row_off (by decide), pm_row_at]; unfold va_cpy; rw [if_pos (by omega), pm_row_off (by decide), pm_row_off (by decide), pm_set_off (by decide), show 0 + (i - 0) = i from by omega]
    · simp only [Nat.reduceAdd]; rw [pm_row_at]; unfold va_cpy; rw [if_pos (by omega), pm_row_off (by decide), pm_row_off (by decide), pm_row_off (by decide), pm_set_off (by decide), show 0 + (i - 0) = i from by omega])
set_option maxHeartbeats 4000000 in
set_option maxRecDepth 100000 in
theorem c_X8_copyFrom_135_1 {g : Nat → Int32} (μ : pm_Mm) (hX : lr_Rw μ.1 1 g) (hn : lr_n g 116 ≤ 10) : pm_CT mi_X8_copyFrom [.ref 144, .ref 10] μ (fun v μ2 => v = none ∧ μ2.2 = μ.2 ∧ (∀ i, (i < 144 ∨ 149 < i) → μ2.1 i = μ.1 i) ∧ lr_Rw μ2.1 135 g) pm_NX := by
  refine pm_CT_of (lo := [some (.ref 144), some (.ref 10)]) (by decide +kernel) rfl rfl (by intro v hv; simp at hv; rcases hv with rfl | rfl <;> rfl) (Nat.le_of_ble_eq_true rfl) rfl ?_
  refine pm_bl [(.aload_n 0, 1, 0, 0, 0), (.aload_n 1, 1, 1, 0, 0), (.getfield 9, 3, 8, 0, 0), (.putfield 9, 3, 8, 0, 0), (.aload_n 1, 1, 1, 0, 0), (.getfield 15, 3, 8, 1, 0), (.aload_n 0, 1, 0, 0, 0), (.getfield 15, 3, 8, 1, 0)] (pc1 := 16) (lo1 := [some (.ref 144), some (.ref 10)]) (st1 := [.ref 145, .ref 11]) (μ1 := pm_set μ 144 0 (μ.1 10 0)) (vc := True) rfl (by decide +kernel) rfl trivial ?_
  refine pm_callSN2 mi_X9_copyRow (ix := 31) (host := RX9) (kc2 := 0) (ks2 := 0) (As := [.ref 11, .ref 145]) (rest := []) (c_X9_copyRow (a := 11) (b := 145) (n := 10) (pm_set μ 144 0 (μ.1 10 0)) rfl rfl (by decide)) cal_X9_copyRow (by decide +kernel) (by decide +kernel) (by decide +kernel) rfl rfl (Nat.le_of_ble_eq_true rfl) (by decide) (by decide) ?_
  rintro _ μ1 ⟨rfl, e1⟩
  show pm_V _ _ _ _ 19 _ [] _
  refine pm_bl [(.aload_n 1, 1, 1, 0, 0), (.getfield 19, 3, 8, 2, 0), (.aload_n 0, 1, 0, 0, 0), (.getfield 19, 3, 8, 2, 0)] (pc1 := 27) (lo1 := [some (.ref 144), some (.ref 10)]) (st1 := [.ref 146, .ref 12]) (μ1 := μ1) (vc := True) rfl (by decide +kernel) rfl trivial ?_
  refine pm_callSN2 mi_X9_copyRow (ix := 31) (host := RX9) (kc2 := 0) (ks2 := 0) (As := [.ref 12, .ref 146]) (rest := []) (c_X9_copyRow (a := 12) (b := 146) (n := 10) μ1 rfl rfl (by decide)) cal_X9_copyRow (by decide +kernel) (by decide +kernel) (by decide +kernel) rfl rfl (Nat.le_of_ble_eq_true rfl) (by decide) (by decide) ?_
  rintro _ μ2 ⟨rfl, e2⟩
  show pm_V _ _ _ _ 30 _ [] _
  refine pm_bl [(.aload_n 1, 1, 1, 0, 0), (.getfield 22, 3, 8, 3, 0), (.aload_n 0, 1, 0, 0, 0), (.getfield 22, 3, 8, 3, 0)] (pc1 := 38) (lo1 := [some (.ref 144), some (.ref 10)]) (st1 := [.ref 147, .ref 13]) (μ1 := μ2) (vc := True) rfl (by decide +kernel) rfl trivial ?_
  refine pm_callSN2 mi_X9_copyRow (ix := 31) (host := RX9) (kc2 := 0) (ks2 := 0) (As := [.ref 13, .ref 147]) (rest := []) (c_X9_copyRow (a := 13) (b := 147) (n := 10) μ2 rfl rfl (by decide)) cal_X9_copyRow (by decide +kernel) (by decide +kernel) (by decide +kernel) rfl rfl (Nat.le_of_ble_eq_true rfl) (by decide) (by decide) ?_
  rintro _ μ3 ⟨rfl, e3⟩
  show pm_V _ _ _ _ 41 _ [] _
  refine pm_bl [(.aload_n 1, 1, 1, 0, 0), (.getfield 25, 3, 8, 4, 0), (.aload_n 0, 1, 0, 0, 0), (.getfield 25, 3, 8, 4, 0)] (pc1 := 49) (lo1 := [some (.ref 144), some (.ref 10)]) (st1 := [.ref 148, .ref 14]) (μ1 := μ3) (vc := True) rfl (by decide +kernel) rfl trivial ?_
  refine pm_callSN2 mi_X9_copyRow (ix := 31) (host := RX9) (kc2 := 0) (ks2 := 0) (As := [.ref 14, .ref 148]) (rest := []) (c_X9_copyRow (a := 14) (b := 148) (n := 10) μ3 rfl rfl (by decide)) cal_X9_copyRow (by decide +kernel) (by decide +kernel) (by decide +kernel) rfl rfl (Nat.le_of_ble_eq_true rfl) (by decide) (by decide) ?_
  rintro _ μ4 ⟨rfl, e4⟩
  show pm_V _ _ _ _ 52 _ [] _
  refine pm_bl [(.aload_n 1, 1, 1, 0, 0), (.getfield 28, 3, 8, 5, 0), (.aload_n 0, 1, 0, 0, 0), (.getfield 28, 3, 8, 5, 0)] (pc1 := 60) (lo1 := [some (.ref 144), some (.ref 10)]) (st1 := [.ref 149, .ref 15]) (μ1 := μ4) (vc := True) rfl (by decide +kernel) rfl trivial ?_
  refine pm_callSN2 mi_X9_copyRow (ix := 31) (host := RX9) (kc2 := 0) (ks2 := 0) (As := [.ref 15, .ref 149]) (rest := []) (c_X9_copyRow (a := 15) (b := 149) (n := 10) μ4 rfl rfl (by decide)) cal_X9_copyRow (by decide +kernel) (by decide +kernel) (by decide +kernel) rfl rfl (Nat.le_of_ble_eq_true rfl) (by decide) (by decide) ?_
  rintro _ μ5 ⟨rfl, e5⟩
  show pm_V _ _ _ _ 63 _ [] _
  exact pm_vret rfl (by decide) (by decide) (by decide +kernel) (by
    subst e1; subst e2; subst e3; subst e4; subst e5
    refine ⟨rfl, rfl, fun i hi => by rw [pm_row_off (by omega), pm_row_off (by omega), pm_row_off (by omega), pm_row_off (by omega), pm_row_off (by omega), pm_set_off (by omega)], lr_Rw.mv (b := 1) (b2 := 135) hX hn (by simp only [Nat.reduceAdd]; rw [pm_row_off (by decide), pm_row_off (by decide), pm_row_off (by decide), pm_row_off (by decide), pm_row_off (by decide), pm_set_hit]) (fun k i h1 h2 h3 => ?_) (fun _ _ _ => rfl)⟩
    rcases (show k = 10 ∨ k = 11 ∨ k = 12 ∨ k = 13 ∨ k = 14 by omega) with rfl | rfl | rfl | rfl | rfl
    · simp only [Nat.reduceAdd]; rw [pm_row_off (by decide), pm_row_off (by decide), pm_row_off (by decide), pm_row_off (by decide), pm_row_at]; unfold va_cpy; rw [if_pos (by omega), pm_set_off (by decide), show 0 + (i - 0) = i from by omega]
    · simp only [Nat.reduceAdd]; rw [pm_row_off (by decide), pm_row_off (by decide), pm_row_off (by decide), pm_row_at]; unfold va_cpy; rw [if_pos (by omega), pm_row_off (by decide), pm_set_off (by decide), show 0 + (i - 0) = i from by omega]
    · simp only [Nat.reduceAdd]; rw [pm_row_off (by decide), pm_row_off (by decide), pm_row_at]; unfold va_cpy; rw [if_pos (by omega), pm_row_off (by decide), pm_row_off (by decide), pm_set_off (by decide), show 0 + (i - 0) = i from by omega]
    · simp only [Nat.reduceAdd]; rw [pm_row_off (by decide), pm_row_at]; unfold va_cpy; rw [if_pos (by omega), pm_row_off (by decide), pm_row_off (by decide), pm_row_off (by decide), pm_set_off (by decide), show 0 + (i - 0) = i from by omega]
    · simp only [Nat.reduceAdd]; rw [pm_row_at]; unfold va_cpy; rw [if_pos (by omega), pm_row_off (by decide), pm_row_off (by decide), pm_row_off (by decide), pm_row_off (by decide), pm_set_off (by decide), show 0 + (i - 0) = i from by omega])
set_option maxHeartbeats 4000000 in
set_option maxRecDepth 100000 in
theorem c_X7_copyFrom_135_1 {g : Nat → Int32} (μ : pm_Mm) (hX : lr_Rr μ.1 1 g) (hn : lr_n g 167 ≤ 12) : pm_CT mi_X7_copyFrom [.ref 150, .ref 16] μ (fun v μ2 => v = none ∧ μ2.2 = μ.2 ∧ (∀ i, (i < 150 ∨ 155 < i) → μ2.1 i = μ.1 i) ∧ lr_Rr μ2.1 135 g) pm_NX := by
  refine pm_CT_of (lo := [some (.ref 150), some (.ref 16)]) (by decide +kernel) rfl rfl (by intro v hv; simp at hv; rcases hv with rfl | rfl <;> rfl) (Nat.le_of_ble_eq_true rfl) rfl ?_
  refine pm_bl [(.aload_n 0, 1, 0, 0, 0), (.aload_n 1, 1, 1, 0, 0), (.getfield 9, 3, 7, 0, 0), (.putfield 9, 3, 7, 0, 0), (.aload_n 1, 1, 1, 0, 0), (.getfield 15, 3, 7, 1, 0), (.aload_n 0, 1, 0, 0, 0), (.getfield 15, 3, 7, 1, 0)] (pc1 := 16) (lo1 := [some (.ref 150), some (.ref 16)]) (st1 := [.ref 151, .ref 17]) (μ1 := pm_set μ 150 0 (μ.1 16 0)) (vc := True) rfl (by decide +kernel) rfl trivial ?_
  refine pm_callSN2 mi_X9_copyRow (ix := 31) (host := RX9) (kc2 := 0) (ks2 := 0) (As := [.ref 17, .ref 151]) (rest := []) (c_X9_copyRow (a := 17) (b := 151) (n := 12) (pm_set μ 150 0 (μ.1 16 0)) rfl rfl (by decide)) cal_X9_copyRow (by decide +kernel) (by decide +kernel) (by decide +kernel) rfl rfl (Nat.le_of_ble_eq_true rfl) (by decide) (by decide) ?_
  rintro _ μ1 ⟨rfl, e1⟩
  show pm_V _ _ _ _ 19 _ [] _
  refine pm_bl [(.aload_n 1, 1, 1, 0, 0), (.getfield 19, 3, 7, 2, 0), (.aload_n 0, 1, 0, 0, 0), (.getfield 19, 3, 7, 2, 0)] (pc1 := 27) (lo1 := [some (.ref 150), some (.ref 16)]) (st1 := [.ref 152, .ref 18]) (μ1 := μ1) (vc := True) rfl (by decide +kernel) rfl trivial ?_
  refine pm_callSN2 mi_X9_copyRow (ix := 31) (host := RX9) (kc2 := 0) (ks2 := 0) (As := [.ref 18, .ref 152]) (rest := []) (c_X9_copyRow (a := 18) (b := 152) (n := 12) μ1 rfl rfl (by decide)) cal_X9_copyRow (by decide +kernel) (by decide +kernel) (by decide +kernel) rfl rfl (Nat.le_of_ble_eq_true rfl) (by decide) (by decide) ?_
  rintro _ μ2 ⟨rfl, e2⟩
  show pm_V _ _ _ _ 30 _ [] _
  refine pm_bl [(.aload_n 1, 1, 1, 0, 0), (.getfield 22, 3, 7, 3, 0), (.aload_n 0, 1, 0, 0, 0), (.getfield 22, 3, 7, 3, 0)] (pc1 := 38) (lo1 := [some (.ref 150), some (.ref 16)]) (st1 := [.ref 153, .ref 19]) (μ1 := μ2) (vc := True) rfl (by decide +kernel) rfl trivial ?_
  refine pm_callSN2 mi_X9_copyRow (ix := 31) (host := RX9) (kc2 := 0) (ks2 := 0) (As := [.ref 19, .ref 153]) (rest := []) (c_X9_copyRow (a := 19) (b := 153) (n := 12) μ2 rfl rfl (by decide)) cal_X9_copyRow (by decide +kernel) (by decide +kernel) (by decide +kernel) rfl rfl (Nat.le_of_ble_eq_true rfl) (by decide) (by decide) ?_
  rintro _ μ3 ⟨rfl, e3⟩
  show pm_V _ _ _ _ 41 _ [] _
  refine pm_bl [(.aload_n 1, 1, 1, 0, 0), (.getfield 25, 3, 7, 4, 0), (.aload_n 0, 1, 0, 0, 0), (.getfield 25, 3, 7, 4, 0)] (pc1 := 49) (lo1 := [some (.ref 150), some (.ref 16)]) (st1 := [.ref 154, .ref 20]) (μ1 := μ3) (vc := True) rfl (by decide +kernel) rfl trivial ?_
  refine pm_callSN2 mi_X9_copyRow (ix := 31) (host := RX9) (kc2 := 0) (ks2 := 0) (As := [.ref 20, .ref 154]) (rest := []) (c_X9_copyRow (a := 20) (b := 154) (n := 12) μ3 rfl rfl (by decide)) cal_X9_copyRow (by decide +kernel) (by decide +kernel) (by decide +kernel) rfl rfl (Nat.le_of_ble_eq_true rfl) (by decide) (by decide) ?_
  rintro _ μ4 ⟨rfl, e4⟩
  show pm_V _ _ _ _ 52 _ [] _
  refine pm_bl [(.aload_n 1, 1, 1, 0, 0), (.getfield 28, 3, 7, 5, 0), (.aload_n 0, 1, 0, 0, 0), (.getfield 28, 3, 7, 5, 0)] (pc1 := 60) (lo1 := [some (.ref 150), some (.ref 16)]) (st1 := [.ref 155, .ref 21]) (μ1 := μ4) (vc := True) rfl (by decide +kernel) rfl trivial ?_
  refine pm_callSN2 mi_X9_copyRow (ix := 31) (host := RX9) (kc2 := 0) (ks2 := 0) (As := [.ref 21, .ref 155]) (rest := []) (c_X9_copyRow (a := 21) (b := 155) (n := 12) μ4 rfl rfl (by decide)) cal_X9_copyRow (by decide +kernel) (by decide +kernel) (by decide +kernel) rfl rfl (Nat.le_of_ble_eq_true rfl) (by decide) (by decide) ?_
  rintro _ μ5 ⟨rfl, e5⟩
  show pm_V _ _ _ _ 63 _ [] _
  exact pm_vret rfl (by decide) (by decide) (by decide +kernel) (by
    subst e1; subst e2; subst e3; subst e4; subst e5
    refine ⟨rfl, rfl, fun i hi => by rw [pm_row_off (by omega), pm_row_off (by omega), pm_row_off (by omega), pm_row_off (by omega), pm_row_off (by omega), pm_set_off (by omega)], lr_Rr.mv (b := 1) (b2 := 135) hX hn (by simp only [Nat.reduceAdd]; rw [pm_row_off (by decide), pm_row_off (by decide), pm_row_off (by decide), pm_row_off (by decide), pm_row_off (by decide), pm_set_hit]) (fun k i h1 h2 h3 => ?_) (fun _ _ _ => rfl)⟩
    rcases (show k = 16 ∨ k = 17 ∨ k = 18 ∨ k = 19 ∨ k = 20 by omega) with rfl | rfl | rfl | rfl | rfl
    · simp only [Nat.reduceAdd]; rw [pm_row_off (by decide), pm_row_off (by decide), pm_row_off (by decide), pm_row_off (by decide), pm_row_at]; unfold va_cpy; rw [if_pos (by omega), pm_set_off (by decide), show 0 + (i - 0) = i from by omega]
    · simp only [Nat.reduceAdd]; rw [pm_row_off (by decide), pm_row_off (by decide), pm_row_off (by decide), pm_row_at]; unfold va_cpy; rw [if_pos (by omega), pm_row_off (by decide), pm_set_off (by decide), show 0 + (i - 0) = i from by omega]
    · simp only [Nat.reduceAdd]; rw [pm_row_off (by decide), pm_row_off (by decide), pm_row_at]; unfold va_cpy; rw [if_pos (by omega), pm_row_off (by decide), pm_row_off (by decide), pm_set_off (by decide), show 0 + (i - 0) = i from by omega]
    · simp only [Nat.reduceAdd]; rw [pm_row_off (by decide), pm_row_at]; unfold va_cpy; rw [if_pos (by omega), pm_row_off (by decide), pm_row_off (by decide), pm_row_off (by decide), pm_set_off (by decide), show 0 + (i - 0) = i from by omega]
    · simp only [Nat.reduceAdd]; rw [pm_row_at]; unfold va_cpy; rw [if_pos (by omega), pm_row_off (by decide), pm_row_off (by decide), pm_row_off (by decide), pm_row_off (by decide), pm_set_off (by decide), show 0 + (i - 0) = i from by omega])
set_option maxHeartbeats 4000000 in
set_option maxRecDepth 100000 in
theorem c_X0_copyFrom_135_1 {g : Nat → Int32} (μ : pm_Mm) (hX : lr_Ra μ.1 1 g) (hn : lr_n g 228 ≤ 20) : pm_CT mi_X0_copyFrom [.ref 156, .ref 22] μ (fun v μ2 => v = none ∧ μ2.2 = μ.2 ∧ (∀ i, (i < 156 ∨ 159 < i) → μ2.1 i = μ.1 i) ∧ lr_Ra μ2.1 135 g) pm_NX := by
  refine pm_CT_of (lo := [some (.ref 156), some (.ref 22)]) (by decide +kernel) rfl rfl (by intro v hv; simp at hv; rcases hv with rfl | rfl <;> rfl) (Nat.le_of_ble_eq_true rfl) rfl ?_
  refine pm_bl [(.aload_n 0, 1, 0, 0, 0), (.aload_n 1, 1, 1, 0, 0), (.getfield 9, 3, 0, 0, 0), (.putfield 9, 3, 0, 0, 0), (.aload_n 1, 1, 1, 0, 0), (.getfield 15, 3, 0, 1, 0), (.aload_n 0, 1, 0, 0, 0), (.getfield 15, 3, 0, 1, 0)] (pc1 := 16) (lo1 := [some (.ref 156), some (.ref 22)]) (st1 := [.ref 157, .ref 23]) (μ1 := pm_set μ 156 0 (μ.1 22 0)) (vc := True) rfl (by decide +kernel) rfl trivial ?_
  refine pm_callSN2 mi_X9_copyRow (ix := 25) (host := RX9) (kc2 := 0) (ks2 := 0) (As := [.ref 23, .ref 157]) (rest := []) (c_X9_copyRow (a := 23) (b := 157) (n := 20) (pm_set μ 156 0 (μ.1 22 0)) rfl rfl (by decide)) cal_X9_copyRow (by decide +kernel) (by decide +kernel) (by decide +kernel) rfl rfl (Nat.le_of_ble_eq_true rfl) (by decide) (by decide) ?_
  rintro _ μ1 ⟨rfl, e1⟩
  show pm_V _ _ _ _ 19 _ [] _
  refine pm_bl [(.aload_n 1, 1, 1, 0, 0), (.getfield 19, 3, 0, 2, 0), (.aload_n 0, 1, 0, 0, 0), (.getfield 19, 3, 0, 2, 0)] (pc1 := 27) (lo1 := [some (.ref 156), some (.ref 22)]) (st1 := [.ref 158, .ref 24]) (μ1 := μ1) (vc := True) rfl (by decide +kernel) rfl trivial ?_
  refine pm_callSN2 mi_X9_copyRow (ix := 25) (host := RX9) (kc2 := 0) (ks2 := 0) (As := [.ref 24, .ref 158]) (rest := []) (c_X9_copyRow (a := 24) (b := 158) (n := 20) μ1 rfl rfl (by decide)) cal_X9_copyRow (by decide +kernel) (by decide +kernel) (by decide +kernel) rfl rfl (Nat.le_of_ble_eq_true rfl) (by decide) (by decide) ?_
  rintro _ μ2 ⟨rfl, e2⟩
  show pm_V _ _ _ _ 30 _ [] _
  refine pm_bl [(.aload_n 1, 1, 1, 0, 0), (.getfield 22, 3, 0, 3, 0), (.aload_n 0, 1, 0, 0, 0), (.getfield 22, 3, 0, 3, 0)] (pc1 := 38) (lo1 := [some (.ref 156), some (.ref 22)]) (st1 := [.ref 159, .ref 25]) (μ1 := μ2) (vc := True) rfl (by decide +kernel) rfl trivial ?_
  refine pm_callSN2 mi_X9_copyRow (ix := 25) (host := RX9) (kc2 := 0) (ks2 := 0) (As := [.ref 25, .ref 159]) (rest := []) (c_X9_copyRow (a := 25) (b := 159) (n := 20) μ2 rfl rfl (by decide)) cal_X9_copyRow (by decide +kernel) (by decide +kernel) (by decide +kernel) rfl rfl (Nat.le_of_ble_eq_true rfl) (by decide) (by decide) ?_
  rintro _ μ3 ⟨rfl, e3⟩
  show pm_V _ _ _ _ 41 _ [] _
  exact pm_vret rfl (by decide) (by decide) (by decide +kernel) (by
    subst e1; subst e2; subst e3
    refine ⟨rfl, rfl, fun i hi => by rw [pm_row_off (by omega), pm_row_off (by omega), pm_row_off (by omega), pm_set_off (by omega)], lr_Ra.mv (b := 1) (b2 := 135) hX hn (by simp only [Nat.reduceAdd]; rw [pm_row_off (by decide), pm_row_off (by decide), pm_row_off (by decide), pm_set_hit]) (fun k i h1 h2 h3 => ?_) (fun _ _ _ => rfl)⟩
    rcases (show k = 22 ∨ k = 23 ∨ k = 24 by omega) with rfl | rfl | rfl
    · simp only [Nat.reduceAdd]; rw [pm_row_off (by decide), pm_row_off (by decide), pm_row_at]; unfold va_cpy; rw [if_pos (by omega), pm_set_off (by decide), show 0 + (i - 0) = i from by omega]
    · simp only [Nat.reduceAdd]; rw [pm_row_off (by decide), pm_row_at]; unfold va_cpy; rw [if_pos (by omega), pm_row_off (by decide), pm_set_off (by decide), show 0 + (i - 0) = i from by omega]
    · simp only [Nat.reduceAdd]; rw [pm_row_at]; unfold va_cpy; rw [if_pos (by omega), pm_row_off (by decide), pm_row_off (by decide), pm_set_off (by decide), show 0 + (i - 0) = i from by omega])
set_option maxHeartbeats 4000000 in
set_option maxRecDepth 100000 in
theorem c_X4_copyFrom_135_1 {g : Nat → Int32} (μ : pm_Mm) (hX : lr_Rl μ.1 1 g) (hn : lr_n g 289 ≤ 30) : pm_CT mi_X4_copyFrom [.ref 160, .ref 26] μ (fun v μ2 => v = none ∧ μ2.2 = μ.2 ∧ (∀ i, (i < 160 ∨ 172 < i) → μ2.1 i = μ.1 i) ∧ lr_Rl μ2.1 135 g) pm_NX := by
  refine pm_CT_of (lo := [some (.ref 160), some (.ref 26)]) (by decide +kernel) rfl rfl (by intro v hv; simp at hv; rcases hv with rfl | rfl <;> rfl) (Nat.le_of_ble_eq_true rfl) rfl ?_
  refine pm_bl [(.aload_n 0, 1, 0, 0, 0), (.aload_n 1, 1, 1, 0, 0), (.getfield 9, 3, 4, 0, 0), (.putfield 9, 3, 4, 0, 0), (.aload_n 0, 1, 0, 0, 0), (.aload_n 1, 1, 1, 0, 0), (.getfield 15, 3, 4, 1, 0), (.putfield 15, 3, 4, 1, 0), (.aload_n 1, 1, 1, 0, 0), (.getfield 18, 3, 4, 2, 0), (.aload_n 0, 1, 0, 0, 0), (.getfield 18, 3, 4, 2, 0)] (pc1 := 24) (lo1 := [some (.ref 160), some (.ref 26)]) (st1 := [.ref 161, .ref 27]) (μ1 := pm_set (pm_set μ 160 0 (μ.1 26 0)) 160 1 ((pm_set μ 160 0 (μ.1 26 0)).1 26 1)) (vc := True) rfl (by decide +kernel) rfl trivial ?_
  rw [show (pm_set μ 160 0 (μ.1 26 0)).1 26 1 = μ.1 26 1 from by simp [pm_set]]
  refine pm_callSN2 mi_X9_copyRow (ix := 55) (host := RX9) (kc2 := 0) (ks2 := 0) (As := [.ref 27, .ref 161]) (rest := []) (c_X9_copyRow (a := 27) (b := 161) (n := 30) (pm_set (pm_set μ 160 0 (μ.1 26 0)) 160 1 (μ.1 26 1)) rfl rfl (by decide)) cal_X9_copyRow (by decide +kernel) (by decide +kernel) (by decide +kernel) rfl rfl (Nat.le_of_ble_eq_true rfl) (by decide) (by decide) ?_
  rintro _ μ1 ⟨rfl, e1⟩
  show pm_V _ _ _ _ 27 _ [] _
  refine pm_bl [(.aload_n 1, 1, 1, 0, 0), (.getfield 22, 3, 4, 3, 0), (.aload_n 0, 1, 0, 0, 0), (.getfield 22, 3, 4, 3, 0)] (pc1 := 35) (lo1 := [some (.ref 160), some (.ref 26)]) (st1 := [.ref 162, .ref 28]) (μ1 := μ1) (vc := True) rfl (by decide +kernel) rfl trivial ?_
  refine pm_callSN2 mi_X9_copyRow (ix := 55) (host := RX9) (kc2 := 0) (ks2 := 0) (As := [.ref 28, .ref 162]) (rest := []) (c_X9_copyRow (a := 28) (b := 162) (n := 30) μ1 rfl rfl (by decide)) cal_X9_copyRow (by decide +kernel) (by decide +kernel) (by decide +kernel) rfl rfl (Nat.le_of_ble_eq_true rfl) (by decide) (by decide) ?_
  rintro _ μ2 ⟨rfl, e2⟩
  show pm_V _ _ _ _ 38 _ [] _
  refine pm_bl [(.aload_n 1, 1, 1, 0, 0), (.getfield 25, 3, 4, 4, 0), (.aload_n 0, 1, 0, 0, 0), (.getfield 25, 3, 4, 4, 0)] (pc1 := 46) (lo1 := [some (.ref 160), some (.ref 26)]) (st1 := [.ref 163, .ref 29]) (μ1 := μ2) (vc := True) rfl (by decide +kernel) rfl trivial ?_
  refine pm_callSN2 mi_X9_copyRow (ix := 55) (host := RX9) (kc2 := 0) (ks2 := 0) (As := [.ref 29, .ref 163]) (rest := []) (c_X9_copyRow (a := 29) (b := 163) (n := 30) μ2 rfl rfl (by decide)) cal_X9_copyRow (by decide +kernel) (by decide +kernel) (by decide +kernel) rfl rfl (Nat.le_of_ble_eq_true rfl) (by decide) (by decide) ?_
  rintro _ μ3 ⟨rfl, e3⟩
  show pm_V _ _ _ _ 49 _ [] _
  refine pm_bl [(.aload_n 1, 1, 1, 0, 0), (.getfield 28, 3, 4, 5, 0), (.aload_n 0, 1, 0, 0, 0), (.getfield 28, 3, 4, 5, 0)] (pc1 := 57) (lo1 := [some (.ref 160), some (.ref 26)]) (st1 := [.ref 164, .ref 30]) (μ1 := μ3) (vc := True) rfl (by decide +kernel) rfl trivial ?_
  refine pm_callSN2 mi_X9_copyRow (ix := 55) (host := RX9) (kc2 := 0) (ks2 := 0) (As := [.ref 30, .ref 164]) (rest := []) (c_X9_copyRow (a := 30) (b := 164) (n := 30) μ3 rfl rfl (by decide)) cal_X9_copyRow (by decide +kernel) (by decide +kernel) (by decide +kernel) rfl rfl (Nat.le_of_ble_eq_true rfl) (by decide) (by decide) ?_
  rintro _ μ4 ⟨rfl, e4⟩
  show pm_V _ _ _ _ 60 _ [] _
  refine pm_bl [(.aload_n 1, 1, 1, 0, 0), (.getfield 31, 3, 4, 6, 0), (.aload_n 0, 1, 0, 0, 0), (.getfield 31, 3, 4, 6, 0)] (pc1 := 68) (lo1 := [some (.ref 160), some (.ref 26)]) (st1 := [.ref 165, .ref 31]) (μ1 := μ4) (vc := True) rfl (by decide +kernel) rfl trivial ?_
  refine pm_callSN2 mi_X9_copyRow (ix := 55) (host := RX9) (kc2 := 0) (ks2 := 0) (As := [.ref 31, .ref 165]) (rest := []) (c_X9_copyRow (a := 31) (b := 165) (n := 30) μ4 rfl rfl (by decide)) cal_X9_copyRow (by decide +kernel) (by decide +kernel) (by decide +kernel) rfl rfl (Nat.le_of_ble_eq_true rfl) (by decide) (by decide) ?_
  rintro _ μ5 ⟨rfl, e5⟩
  show pm_V _ _ _ _ 71 _ [] _
  refine pm_bl [(.aload_n 1, 1, 1, 0, 0), (.getfield 34, 3, 4, 7, 0), (.aload_n 0, 1, 0, 0, 0), (.getfield 34, 3, 4, 7, 0)] (pc1 := 79) (lo1 := [some (.ref 160), some (.ref 26)]) (st1 := [.ref 166, .ref 32]) (μ1 := μ5) (vc := True) rfl (by decide +kernel) rfl trivial ?_
  refine pm_callSN2 mi_X9_copyRow (ix := 55) (host := RX9) (kc2 := 0) (ks2 := 0) (As := [.ref 32, .ref 166]) (rest := []) (c_X9_copyRow (a := 32) (b := 166) (n := 30) μ5 rfl rfl (by decide)) cal_X9_copyRow (by decide +kernel) (by decide +kernel) (by decide +kernel) rfl rfl (Nat.le_of_ble_eq_true rfl) (by decide) (by decide) ?_
  rintro _ μ6 ⟨rfl, e6⟩
  show pm_V _ _ _ _ 82 _ [] _
  refine pm_bl [(.aload_n 1, 1, 1, 0, 0), (.getfield 37, 3, 4, 8, 0), (.aload_n 0, 1, 0, 0, 0), (.getfield 37, 3, 4, 8, 0)] (pc1 := 90) (lo1 := [some (.ref 160), some (.ref 26)]) (st1 := [.ref 167, .ref 33]) (μ1 := μ6) (vc := True) rfl (by decide +kernel) rfl trivial ?_
  refine pm_callSN2 mi_X9_copyRow (ix := 55) (host := RX9) (kc2 := 0) (ks2 := 0) (As := [.ref 33, .ref 167]) (rest := []) (c_X9_copyRow (a := 33) (b := 167) (n := 30) μ6 rfl rfl (by decide)) cal_X9_copyRow (by decide +kernel) (by decide +kernel) (by decide +kernel) rfl rfl (Nat.le_of_ble_eq_true rfl) (by decide) (by decide) ?_
  rintro _ μ7 ⟨rfl, e7⟩
  show pm_V _ _ _ _ 93 _ [] _
  refine pm_bl [(.aload_n 1, 1, 1, 0, 0), (.getfield 40, 3, 4, 9, 0), (.aload_n 0, 1, 0, 0, 0), (.getfield 40, 3, 4, 9, 0)] (pc1 := 101) (lo1 := [some (.ref 160), some (.ref 26)]) (st1 := [.ref 168, .ref 34]) (μ1 := μ7) (vc := True) rfl (by decide +kernel) rfl trivial ?_
  refine pm_callSN2 mi_X9_copyRow (ix := 55) (host := RX9) (kc2 := 0) (ks2 := 0) (As := [.ref 34, .ref 168]) (rest := []) (c_X9_copyRow (a := 34) (b := 168) (n := 30) μ7 rfl rfl (by decide)) cal_X9_copyRow (by decide +kernel) (by decide +kernel) (by decide +kernel) rfl rfl (Nat.le_of_ble_eq_true rfl) (by decide) (by decide) ?_
  rintro _ μ8 ⟨rfl, e8⟩
  show pm_V _ _ _ _ 104 _ [] _
  refine pm_bl [(.aload_n 1, 1, 1, 0, 0), (.getfield 43, 3, 4, 10, 0), (.aload_n 0, 1, 0, 0, 0), (.getfield 43, 3, 4, 10, 0)] (pc1 := 112) (lo1 := [some (.ref 160), some (.ref 26)]) (st1 := [.ref 169, .ref 35]) (μ1 := μ8) (vc := True) rfl (by decide +kernel) rfl trivial ?_
  refine pm_callSN2 mi_X9_copyRow (ix := 55) (host := RX9) (kc2 := 0) (ks2 := 0) (As := [.ref 35, .ref 169]) (rest := []) (c_X9_copyRow (a := 35) (b := 169) (n := 30) μ8 rfl rfl (by decide)) cal_X9_copyRow (by decide +kernel) (by decide +kernel) (by decide +kernel) rfl rfl (Nat.le_of_ble_eq_true rfl) (by decide) (by decide) ?_
  rintro _ μ9 ⟨rfl, e9⟩
  show pm_V _ _ _ _ 115 _ [] _
  refine pm_bl [(.aload_n 1, 1, 1, 0, 0), (.getfield 46, 3, 4, 11, 0), (.aload_n 0, 1, 0, 0, 0), (.getfield 46, 3, 4, 11, 0)] (pc1 := 123) (lo1 := [some (.ref 160), some (.ref 26)]) (st1 := [.ref 170, .ref 36]) (μ1 := μ9) (vc := True) rfl (by decide +kernel) rfl trivial ?_
  refine pm_callSN2 mi_X9_copyRow (ix := 55) (host := RX9) (kc2 := 0) (ks2 := 0) (As := [.ref 36, .ref 170]) (rest := []) (c_X9_copyRow (a := 36) (b := 170) (n := 30) μ9 rfl rfl (by decide)) cal_X9_copyRow (by decide +kernel) (by decide +kernel) (by decide +kernel) rfl rfl (Nat.le_of_ble_eq_true rfl) (by decide) (by decide) ?_
  rintro _ μ10 ⟨rfl, e10⟩
  show pm_V _ _ _ _ 126 _ [] _
  refine pm_bl [(.aload_n 1, 1, 1, 0, 0), (.getfield 49, 3, 4, 12, 0), (.aload_n 0, 1, 0, 0, 0), (.getfield 49, 3, 4, 12, 0)] (pc1 := 134) (lo1 := [some (.ref 160), some (.ref 26)]) (st1 := [.ref 171, .ref 37]) (μ1 := μ10) (vc := True) rfl (by decide +kernel) rfl trivial ?_
  refine pm_callSN2 mi_X9_copyRow (ix := 55) (host := RX9) (kc2 := 0) (ks2 := 0) (As := [.ref 37, .ref 171]) (rest := []) (c_X9_copyRow (a := 37) (b := 171) (n := 30) μ10 rfl rfl (by decide)) cal_X9_copyRow (by decide +kernel) (by decide +kernel) (by decide +kernel) rfl rfl (Nat.le_of_ble_eq_true rfl) (by decide) (by decide) ?_
  rintro _ μ11 ⟨rfl, e11⟩
  show pm_V _ _ _ _ 137 _ [] _
  refine pm_bl [(.aload_n 1, 1, 1, 0, 0), (.getfield 52, 3, 4, 13, 0), (.aload_n 0, 1, 0, 0, 0), (.getfield 52, 3, 4, 13, 0)] (pc1 := 145) (lo1 := [some (.ref 160), some (.ref 26)]) (st1 := [.ref 172, .ref 38]) (μ1 := μ11) (vc := True) rfl (by decide +kernel) rfl trivial ?_
  refine pm_callSN2 mi_X9_copyRow (ix := 55) (host := RX9) (kc2 := 0) (ks2 := 0) (As := [.ref 38, .ref 172]) (rest := []) (c_X9_copyRow (a := 38) (b := 172) (n := 30) μ11 rfl rfl (by decide)) cal_X9_copyRow (by decide +kernel) (by decide +kernel) (by decide +kernel) rfl rfl (Nat.le_of_ble_eq_true rfl) (by decide) (by decide) ?_
  rintro _ μ12 ⟨rfl, e12⟩
  show pm_V _ _ _ _ 148 _ [] _
  exact pm_vret rfl (by decide) (by decide) (by decide +kernel) (by
    subst e1; subst e2; subst e3; subst e4; subst e5; subst e6; subst e7; subst e8; subst e9; subst e10; subst e11; subst e12
    refine ⟨rfl, rfl, fun i hi => by rw [pm_row_off (by omega), pm_row_off (by omega), pm_row_off (by omega), pm_row_off (by omega), pm_row_off (by omega), pm_row_off (by omega), pm_row_off (by omega), pm_row_off (by omega), pm_row_off (by omega), pm_row_off (by omega), pm_row_off (by omega), pm_row_off (by omega), pm_set_off (by omega), pm_set_off (by omega)], lr_Rl.mv (b := 1) (b2 := 135) hX hn (by simp only [Nat.reduceAdd]; rw [pm_row_off (by decide), pm_row_off (by decide), pm_row_off (by decide), pm_row_off (by decide), pm_row_off (by decide), pm_row_off (by decide), pm_row_off (by decide), pm_row_off (by decide), pm_row_off (by decide), pm_row_off (by decide), pm_row_off (by decide), pm_row_off (by decide), pm_set_miss (Or.inr (by decide)), pm_set_hit]) (by simp only [Nat.reduceAdd]; rw [pm_row_off (by decide), pm_row_off (by decide), pm_row_off (by decide), pm_row_off (by decide), pm_row_off (by decide), pm_row_off (by decide), pm_row_off (by decide), pm_row_off (by decide), pm_row_off (by decide), pm_row_off (by decide), pm_row_off (by decide), pm_row_off (by decide), pm_set_hit]) (fun k i h1 h2 h3 => ?_) (fun _ _ _ => rfl) rfl⟩
    rcases (show k = 26 ∨ k = 27 ∨ k = 28 ∨ k = 29 ∨ k = 30 ∨ k = 31 ∨ k = 32 ∨ k = 33 ∨ k = 34 ∨ k = 35 ∨ k = 36 ∨ k = 37 by omega) with rfl | rfl | rfl | rfl | rfl | rfl | rfl | rfl | rfl | rfl | rfl | rfl
    · simp only [Nat.reduceAdd]; rw [pm_row_off (by decide), pm_row_off (by decide), pm_row_off (by decide), pm_row_off (by decide), pm_row_off (by decide), pm_row_off (by decide), pm_row_off (by decide), pm_row_off (by decide), pm_row_off (by decide), pm_row_off (by decide), pm_row_off (by decide), pm_row_at]; unfold va_cpy; rw [if_pos (by omega), pm_set_off (by decide), pm_set_off (by decide), show 0 + (i - 0) = i from by omega]
    · simp only [Nat.reduceAdd]; rw [pm_row_off (by decide), pm_row_off (by decide), pm_row_off (by decide), pm_row_off (by decide), pm_row_off (by decide), pm_row_off (by decide), pm_row_off (by decide), pm_row_off (by decide), pm_row_off (by decide), pm_row_off (by decide), pm_row_at]; unfold va_cpy; rw [if_pos (by omega), pm_row_off (by decide), pm_set_off (by decide), pm_set_off (by decide), show 0 + (i - 0) = i from by omega]
    · simp only [Nat.reduceAdd]; rw [pm_row_off (by decide), pm_row_off (by decide), pm_row_off (by decide), pm_row_off (by decide), pm_row_off (by decide), pm_row_off (by decide), pm_row_off (by decide), pm_row_off (by decide), pm_row_off (by decide), pm_row_at]; unfold va_cpy; rw [if_pos (by omega), pm_row_off (by decide), pm_row_off (by decide), pm_set_off (by decide), pm_set_off (by decide), show 0 + (i - 0) = i from by omega]
    · simp only [Nat.reduceAdd]; rw [pm_row_off (by decide), pm_row_off (by decide), pm_row_off (by decide), pm_row_off (by decide), pm_row_off (by decide), pm_row_off (by decide), pm_row_off (by decide), pm_row_off (by decide), pm_row_at]; unfold va_cpy; rw [if_pos (by omega), pm_row_off (by decide), pm_row_off (by decide), pm_row_off (by decide), pm_set_off (by decide), pm_set_off (by decide), show 0 + (i - 0) = i from by omega]
    · simp only [Nat.reduceAdd]; rw [pm_row_off (by decide), pm_row_off (by decide), pm_row_off (by decide), pm_row_off (by decide), pm_row_off (by decide), pm_row_off (by decide), pm_row_off (by decide), pm_row_at]; unfold va_cpy; rw [if_pos (by omega), pm_row_off (by decide), pm_row_off (by decide), pm_row_off (by decide), pm_row_off (by decide), pm_set_off (by decide), pm_set_off (by decide), show 0 + (i - 0) = i from by omega]
    · simp only [Nat.reduceAdd]; rw [pm_row_off (by decide), pm_row_off (by decide), pm_row_off (by decide), pm_row_off (by decide), pm_row_off (by decide), pm_row_off (by decide), pm_row_at]; unfold va_cpy; rw [if_pos (by omega), pm_row_off (by decide), pm_row_off (by decide), pm_row_off (by decide), pm_row_off (by decide), pm_row_off (by decide), pm_set_off (by decide), pm_set_off (by decide), show 0 + (i - 0) = i from by omega]
    · simp only [Nat.reduceAdd]; rw [pm_row_off (by decide), pm_row_off (by decide), pm_row_off (by decide), pm_row_off (by decide), pm_row_off (by decide), pm_row_at]; unfold va_cpy; rw [if_pos (by omega), pm_row_off (by decide), pm_row_off (by decide), pm_row_off (by decide), pm_row_off (by decide), pm_row_off (by decide), pm_row_off (by decide), pm_set_off (by decide), pm_set_off (by decide), show 0 + (i - 0) = i from by omega]
    · simp only [Nat.reduceAdd]; rw [pm_row_off (by decide), pm_row_off (by decide), pm_row_off (by decide), pm_row_off (by decide), pm_row_at]; unfold va_cpy; rw [if_pos (by omega), pm_row_off (by decide), pm_row_off (by decide), pm_row_off (by decide), pm_row_off (by decide), pm_row_off (by decide), pm_row_off (by decide), pm_row_off (by decide), pm_set_off (by decide), pm_set_off (by decide), show 0 + (i - 0) = i from by omega]
    · simp only [Nat.reduceAdd]; rw [pm_row_off (by decide), pm_row_off (by decide), pm_row_off (by decide), pm_row_at]; unfold va_cpy; rw [if_pos (by omega), pm_row_off (by decide), pm_row_off (by decide), pm_row_off (by decide), pm_row_off (by decide), pm_row_off (by decide), pm_row_off (by decide), pm_row_off (by decide), pm_row_off (by decide), pm_set_off (by decide), pm_set_off (by decide), show 0 + (i - 0) = i from by omega]
    · simp only [Nat.reduceAdd]; rw [pm_row_off (by decide), pm_row_off (by decide), pm_row_at]; unfold va_cpy; rw [if_pos (by omega), pm_row_off (by decide), pm_row_off (by decide), pm_row_off (by decide), pm_row_off (by decide), pm_row_off (by decide), pm_row_off (by decide), pm_row_off (by decide), pm_row_off (by decide), pm_row_off (by decide), pm_set_off (by decide), pm_set_off (by decide), show 0 + (i - 0) = i from by omega]
    · simp only [Nat.reduceAdd]; rw [pm_row_off (by decide), pm_row_at]; unfold va_cpy; rw [if_pos (by omega), pm_row_off (by decide), pm_row_off (by decide), pm_row_off (by decide), pm_row_off (by decide), pm_row_off (by decide), pm_row_off (by decide), pm_row_off (by decide), pm_row_off (by decide), pm_row_off (by decide), pm_row_off (by decide), pm_set_off (by decide), pm_set_off (by decide), show 0 + (i - 0) = i from by omega]
    · simp only [Nat.reduceAdd]; rw [pm_row_at]; unfold va_cpy; rw [if_pos (by omega), pm_row_off (by decide), pm_row_off (by decide), pm_row_off (by decide), pm_row_off (by decide), pm_row_off (by decide), pm_row_off (by decide), pm_row_off (by decide), pm_row_off (by decide), pm_row_off (by decide), pm_row_off (by decide), pm_row_off (by decide), pm_set_off (by decide), pm_set_off (by decide), show 0 + (i - 0) = i from by omega])
set_option maxHeartbeats 4000000 in
set_option maxRecDepth 100000 in
theorem c_X5_copyFrom_135_1 {g : Nat → Int32} (μ : pm_Mm) (hR : lr_Rel μ.1 1 g) (hB : lr_B g) : pm_CT mi_X5_copyFrom [.ref 135, .ref 1] μ (fun v μ2 => v = none ∧ μ2.2 = μ.2 ∧ (∀ i, (i < 135 ∨ 173 < i) → μ2.1 i = μ.1 i) ∧ lr_Rel μ2.1 135 g) pm_NX := by
  refine pm_CT_of (lo := [some (.ref 135), some (.ref 1)]) (by decide +kernel) rfl rfl (by intro v hv; simp at hv; rcases hv with rfl | rfl <;> rfl) (Nat.le_of_ble_eq_true rfl) rfl ?_
  obtain ⟨hm1, hm3, hm2, hm4, hm5, hm6⟩ := id hB
  refine pm_bl [(.aload_n 0, 1, 0, 0, 0), (.getfield 12, 3, 5, 0, 0), (.aload_n 1, 1, 1, 0, 0), (.getfield 12, 3, 5, 0, 0)] (pc1 := 8) (lo1 := [some (.ref 135), some (.ref 1)]) (st1 := [.ref 2, .ref 136]) (μ1 := μ) (vc := True) rfl (by decide +kernel) rfl trivial ?_
  refine pm_callV2 mi_X3_copyFrom (ix := 61) (b := 136) (ci := 3) (kc2 := 0) (ks2 := 0) (As := [.ref 2]) (rest := []) (c_X3_copyFrom_135_1 μ hR.2.1 hm1) cal_X3_copyFrom lk5_61 (by decide +kernel) rfl (by decide +kernel) rfl rfl rfl rfl (Nat.le_of_ble_eq_true rfl) (by decide) (by decide) (fun _ _ h9 => h9.elim) ?_
  rintro _ μ1 ⟨rfl, x1, f1, r1⟩
  show pm_V _ _ _ _ 11 _ [] _
  refine pm_bl [(.aload_n 0, 1, 0, 0, 0), (.getfield 21, 3, 5, 1, 0), (.aload_n 1, 1, 1, 0, 0), (.getfield 21, 3, 5, 1, 0)] (pc1 := 19) (lo1 := [some (.ref 135), some (.ref 1)]) (st1 := [.ref 5, .ref 139]) (μ1 := μ1) (vc := True) rfl (by decide +kernel) rfl trivial ?_
  refine pm_callV2 mi_X6_copyFrom (ix := 65) (b := 139) (ci := 6) (kc2 := 0) (ks2 := 0) (As := [.ref 5]) (rest := []) (c_X6_copyFrom_135_1 μ1 (lr_Rp.st (b := 1) hR.2.2.1 hm3 (fun k h1 h2 => by rw [f1 _ (by omega)]) (fun _ _ _ => rfl)) hm3) cal_X6_copyFrom lk5_65 (by decide +kernel) rfl (by decide +kernel) rfl rfl rfl rfl (Nat.le_of_ble_eq_true rfl) (by decide) (by decide) (fun _ _ h9 => h9.elim) ?_
  rintro _ μ2 ⟨rfl, x2, f2, r2⟩
  show pm_V _ _ _ _ 22 _ [] _
  refine pm_bl [(.aload_n 0, 1, 0, 0, 0), (.getfield 28, 3, 5, 2, 0), (.aload_n 1, 1, 1, 0, 0), (.getfield 28, 3, 5, 2, 0)] (pc1 := 30) (lo1 := [some (.ref 135), some (.ref 1)]) (st1 := [.ref 10, .ref 144]) (μ1 := μ2) (vc := True) rfl (by decide +kernel) rfl trivial ?_
  refine pm_callV2 mi_X8_copyFrom (ix := 68) (b := 144) (ci := 8) (kc2 := 0) (ks2 := 0) (As := [.ref 10]) (rest := []) (c_X8_copyFrom_135_1 μ2 (lr_Rw.st (b := 1) hR.2.2.2.1 hm2 (fun k h1 h2 => by rw [f2 _ (by omega), f1 _ (by omega)]) (fun _ _ _ => rfl)) hm2) cal_X8_copyFrom lk5_68 (by decide +kernel) rfl (by decide +kernel) rfl rfl rfl rfl (Nat.le_of_ble_eq_true rfl) (by decide) (by decide) (fun _ _ h9 => h9.elim) ?_
  rintro _ μ3 ⟨rfl, x3, f3, r3⟩
  show pm_V _ _ _ _ 33 _ [] _
  refine pm_bl [(.aload_n 0, 1, 0, 0, 0), (.getfield 35, 3, 5, 3, 0), (.aload_n 1, 1, 1, 0, 0), (.getfield 35, 3, 5, 3, 0)] (pc1 := 41) (lo1 := [some (.ref 135), some (.ref 1)]) (st1 := [.ref 16, .ref 150]) (μ1 := μ3) (vc := True) rfl (by decide +kernel) rfl trivial ?_
  refine pm_callV2 mi_X7_copyFrom (ix := 71) (b := 150) (ci := 7) (kc2 := 0) (ks2 := 0) (As := [.ref 16]) (rest := []) (c_X7_copyFrom_135_1 μ3 (lr_Rr.st (b := 1) hR.2.2.2.2.1 hm4 (fun k h1 h2 => by rw [f3 _ (by omega), f2 _ (by omega), f1 _ (by omega)]) (fun _ _ _ => rfl)) hm4) cal_X7_copyFrom lk5_71 (by decide +kernel) rfl (by decide +kernel) rfl rfl rfl rfl (Nat.le_of_ble_eq_true rfl) (by decide) (by decide) (fun _ _ h9 => h9.elim) ?_
  rintro _ μ4 ⟨rfl, x4, f4, r4⟩
  show pm_V _ _ _ _ 44 _ [] _
  refine pm_bl [(.aload_n 0, 1, 0, 0, 0), (.getfield 42, 3, 5, 4, 0), (.aload_n 1, 1, 1, 0, 0), (.getfield 42, 3, 5, 4, 0)] (pc1 := 52) (lo1 := [some (.ref 135), some (.ref 1)]) (st1 := [.ref 22, .ref 156]) (μ1 := μ4) (vc := True) rfl (by decide +kernel) rfl trivial ?_
  refine pm_callV2 mi_X0_copyFrom (ix := 74) (b := 156) (ci := 0) (kc2 := 0) (ks2 := 0) (As := [.ref 22]) (rest := []) (c_X0_copyFrom_135_1 μ4 (lr_Ra.st (b := 1) hR.2.2.2.2.2.1 hm5 (fun k h1 h2 => by rw [f4 _ (by omega), f3 _ (by omega), f2 _ (by omega), f1 _ (by omega)]) (fun _ _ _ => rfl)) hm5) cal_X0_copyFrom lk5_74 (by decide +kernel) rfl (by decide +kernel) rfl rfl rfl rfl (Nat.le_of_ble_eq_true rfl) (by decide) (by decide) (fun _ _ h9 => h9.elim) ?_
  rintro _ μ5 ⟨rfl, x5, f5, r5⟩
  show pm_V _ _ _ _ 55 _ [] _
  refine pm_bl [(.aload_n 0, 1, 0, 0, 0), (.getfield 49, 3, 5, 5, 0), (.aload_n 1, 1, 1, 0, 0), (.getfield 49, 3, 5, 5, 0)] (pc1 := 63) (lo1 := [some (.ref 135), some (.ref 1)]) (st1 := [.ref 26, .ref 160]) (μ1 := μ5) (vc := True) rfl (by decide +kernel) rfl trivial ?_
  refine pm_callV2 mi_X4_copyFrom (ix := 77) (b := 160) (ci := 4) (kc2 := 0) (ks2 := 0) (As := [.ref 26]) (rest := []) (c_X4_copyFrom_135_1 μ5 (lr_Rl.st (b := 1) hR.2.2.2.2.2.2 hm6 (fun k h1 h2 => by rw [f5 _ (by omega), f4 _ (by omega), f3 _ (by omega), f2 _ (by omega), f1 _ (by omega)]) rfl (fun _ _ _ => rfl)) hm6) cal_X4_copyFrom lk5_77 (by decide +kernel) rfl (by decide +kernel) rfl rfl rfl rfl (Nat.le_of_ble_eq_true rfl) (by decide) (by decide) (fun _ _ h9 => h9.elim) ?_
  rintro _ μ6 ⟨rfl, x6, f6, r6⟩
  show pm_V _ _ _ _ 66 _ [] _
  refine pm_bl [(.aload_n 0, 1, 0, 0, 0), (.aload_n 1, 1, 1, 0, 0), (.getfield 53, 3, 5, 6, 0), (.putfield 53, 3, 5, 6, 0)] (pc1 := 74) (lo1 := [some (.ref 135), some (.ref 1)]) (st1 := []) (μ1 := pm_set μ6 135 6 (μ6.1 1 6)) (vc := True) rfl (by decide +kernel) rfl trivial ?_
  exact pm_vret rfl (by decide) (by decide) (by decide +kernel) (⟨rfl, (x6.trans (x5.trans (x4.trans (x3.trans (x2.trans x1))))), fun i hi => by rw [pm_set_off (by omega), f6 _ (by omega), f5 _ (by omega), f4 _ (by omega), f3 _ (by omega), f2 _ (by omega), f1 _ (by omega)], by rw [pm_set_hit, f6 _ (by omega), f5 _ (by omega), f4 _ (by omega), f3 _ (by omega), f2 _ (by omega), f1 _ (by omega)]; exact hR.1, lr_Rh.st (b := 135) r1 hm1 (fun k h1 h2 => by rw [pm_set_off (by omega), f6 _ (by omega), f5 _ (by omega), f4 _ (by omega), f3 _ (by omega), f2 _ (by omega)]) (fun _ _ _ => rfl), lr_Rp.st (b := 135) r2 hm3 (fun k h1 h2 => by rw [pm_set_off (by omega), f6 _ (by omega), f5 _ (by omega), f4 _ (by omega), f3 _ (by omega)]) (fun _ _ _ => rfl), lr_Rw.st (b := 135) r3 hm2 (fun k h1 h2 => by rw [pm_set_off (by omega), f6 _ (by omega), f5 _ (by omega), f4 _ (by omega)]) (fun _ _ _ => rfl), lr_Rr.st (b := 135) r4 hm4 (fun k h1 h2 => by rw [pm_set_off (by omega), f6 _ (by omega), f5 _ (by omega)]) (fun _ _ _ => rfl), lr_Ra.st (b := 135) r5 hm5 (fun k h1 h2 => by rw [pm_set_off (by omega), f6 _ (by omega)]) (fun _ _ _ => rfl), lr_Rl.st (b := 135) r6 hm6 (fun k h1 h2 => by rw [pm_set_off (by omega)]) rfl (fun _ _ _ => rfl)⟩)
set_option maxHeartbeats 4000000 in
set_option maxRecDepth 100000 in
theorem c_X3_copyFrom_174_1 {g : Nat → Int32} (μ : pm_Mm) (hX : lr_Rh μ.1 1 g) (hn : lr_n g 2 ≤ 16) : pm_CT mi_X3_copyFrom [.ref 175, .ref 2] μ (fun v μ2 => v = none ∧ μ2.2 = μ.2 ∧ (∀ i, (i < 175 ∨ 177 < i) → μ2.1 i = μ.1 i) ∧ lr_Rh μ2.1 174 g) pm_NX := by
  refine pm_CT_of (lo := [some (.ref 175), some (.ref 2)]) (by decide +kernel) rfl rfl (by intro v hv; simp at hv; rcases hv with rfl | rfl <;> rfl) (Nat.le_of_ble_eq_true rfl) rfl ?_
  refine pm_bl [(.aload_n 0, 1, 0, 0, 0), (.aload_n 1, 1, 1, 0, 0), (.getfield 9, 3, 3, 0, 0), (.putfield 9, 3, 3, 0, 0), (.aload_n 1, 1, 1, 0, 0), (.getfield 15, 3, 3, 1, 0), (.aload_n 0, 1, 0, 0, 0), (.getfield 15, 3, 3, 1, 0)] (pc1 := 16) (lo1 := [some (.ref 175), some (.ref 2)]) (st1 := [.ref 176, .ref 3]) (μ1 := pm_set μ 175 0 (μ.1 2 0)) (vc := True) rfl (by decide +kernel) rfl trivial ?_
  refine pm_callSN2 mi_X9_copyRow (ix := 22) (host := RX9) (kc2 := 0) (ks2 := 0) (As := [.ref 3, .ref 176]) (rest := []) (c_X9_copyRow (a := 3) (b := 176) (n := 16) (pm_set μ 175 0 (μ.1 2 0)) rfl rfl (by decide)) cal_X9_copyRow (by decide +kernel) (by decide +kernel) (by decide +kernel) rfl rfl (Nat.le_of_ble_eq_true rfl) (by decide) (by decide) ?_
  rintro _ μ1 ⟨rfl, e1⟩
  show pm_V _ _ _ _ 19 _ [] _
  refine pm_bl [(.aload_n 1, 1, 1, 0, 0), (.getfield 19, 3, 3, 2, 0), (.aload_n 0, 1, 0, 0, 0), (.getfield 19, 3, 3, 2, 0)] (pc1 := 27) (lo1 := [some (.ref 175), some (.ref 2)]) (st1 := [.ref 177, .ref 4]) (μ1 := μ1) (vc := True) rfl (by decide +kernel) rfl trivial ?_
  refine pm_callSN2 mi_X9_copyRow (ix := 22) (host := RX9) (kc2 := 0) (ks2 := 0) (As := [.ref 4, .ref 177]) (rest := []) (c_X9_copyRow (a := 4) (b := 177) (n := 16) μ1 rfl rfl (by decide)) cal_X9_copyRow (by decide +kernel) (by decide +kernel) (by decide +kernel) rfl rfl (Nat.le_of_ble_eq_true rfl) (by decide) (by decide) ?_
  rintro _ μ2 ⟨rfl, e2⟩
  show pm_V _ _ _ _ 30 _ [] _
  exact pm_vret rfl (by decide) (by decide) (by decide +kernel) (by
    subst e1; subst e2
    refine ⟨rfl, rfl, fun i hi => by rw [pm_row_off (by omega), pm_row_off (by omega), pm_set_off (by omega)], lr_Rh.mv (b := 1) (b2 := 174) hX hn (by simp only [Nat.reduceAdd]; rw [pm_row_off (by decide), pm_row_off (by decide), pm_set_hit]) (fun k i h1 h2 h3 => ?_) (fun _ _ _ => rfl)⟩
    rcases (show k = 2 ∨ k = 3 by omega) with rfl | rfl
    · simp only [Nat.reduceAdd]; rw [pm_row_off (by decide), pm_row_at]; unfold va_cpy; rw [if_pos (by omega), pm_set_off (by decide), show 0 + (i - 0) = i from by omega]
    · simp only [Nat.reduceAdd]; rw [pm_row_at]; unfold va_cpy; rw [if_pos (by omega), pm_row_off (by decide), pm_set_off (by decide), show 0 + (i - 0) = i from by omega])
set_option maxHeartbeats 4000000 in
set_option maxRecDepth 100000 in
theorem c_X6_copyFrom_174_1 {g : Nat → Int32} (μ : pm_Mm) (hX : lr_Rp μ.1 1 g) (hn : lr_n g 35 ≤ 20) : pm_CT mi_X6_copyFrom [.ref 178, .ref 5] μ (fun v μ2 => v = none ∧ μ2.2 = μ.2 ∧ (∀ i, (i < 178 ∨ 182 < i) → μ2.1 i = μ.1 i) ∧ lr_Rp μ2.1 174 g) pm_NX := by
  refine pm_CT_of (lo := [some (.ref 178), some (.ref 5)]) (by decide +kernel) rfl rfl (by intro v hv; simp at hv; rcases hv with rfl | rfl <;> rfl) (Nat.le_of_ble_eq_true rfl) rfl ?_
  refine pm_bl [(.aload_n 0, 1, 0, 0, 0), (.aload_n 1, 1, 1, 0, 0), (.getfield 9, 3, 6, 0, 0), (.putfield 9, 3, 6, 0, 0), (.aload_n 1, 1, 1, 0, 0), (.getfield 15, 3, 6, 1, 0), (.aload_n 0, 1, 0, 0, 0), (.getfield 15, 3, 6, 1, 0)] (pc1 := 16) (lo1 := [some (.ref 178), some (.ref 5)]) (st1 := [.ref 179, .ref 6]) (μ1 := pm_set μ 178 0 (μ.1 5 0)) (vc := True) rfl (by decide +kernel) rfl trivial ?_
  refine pm_callSN2 mi_X9_copyRow (ix := 28) (host := RX9) (kc2 := 0) (ks2 := 0) (As := [.ref 6, .ref 179]) (rest := []) (c_X9_copyRow (a := 6) (b := 179) (n := 20) (pm_set μ 178 0 (μ.1 5 0)) rfl rfl (by decide)) cal_X9_copyRow (by decide +kernel) (by decide +kernel) (by decide +kernel) rfl rfl (Nat.le_of_ble_eq_true rfl) (by decide) (by decide) ?_
  rintro _ μ1 ⟨rfl, e1⟩
  show pm_V _ _ _ _ 19 _ [] _
  refine pm_bl [(.aload_n 1, 1, 1, 0, 0), (.getfield 19, 3, 6, 2, 0), (.aload_n 0, 1, 0, 0, 0), (.getfield 19, 3, 6, 2, 0)] (pc1 := 27) (lo1 := [some (.ref 178), some (.ref 5)]) (st1 := [.ref 180, .ref 7]) (μ1 := μ1) (vc := True) rfl (by decide +kernel) rfl trivial ?_
  refine pm_callSN2 mi_X9_copyRow (ix := 28) (host := RX9) (kc2 := 0) (ks2 := 0) (As := [.ref 7, .ref 180]) (rest := []) (c_X9_copyRow (a := 7) (b := 180) (n := 20) μ1 rfl rfl (by decide)) cal_X9_copyRow (by decide +kernel) (by decide +kernel) (by decide +kernel) rfl rfl (Nat.le_of_ble_eq_true rfl) (by decide) (by decide) ?_
  rintro _ μ2 ⟨rfl, e2⟩
  show pm_V _ _ _ _ 30 _ [] _
  refine pm_bl [(.aload_n 1, 1, 1, 0, 0), (.getfield 22, 3, 6, 3, 0), (.aload_n 0, 1, 0, 0, 0), (.getfield 22, 3, 6, 3, 0)] (pc1 := 38) (lo1 := [some (.ref 178), some (.ref 5)]) (st1 := [.ref 181, .ref 8]) (μ1 := μ2) (vc := True) rfl (by decide +kernel) rfl trivial ?_
  refine pm_callSN2 mi_X9_copyRow (ix := 28) (host := RX9) (kc2 := 0) (ks2 := 0) (As := [.ref 8, .ref 181]) (rest := []) (c_X9_copyRow (a := 8) (b := 181) (n := 20) μ2 rfl rfl (by decide)) cal_X9_copyRow (by decide +kernel) (by decide +kernel) (by decide +kernel) rfl rfl (Nat.le_of_ble_eq_true rfl) (by decide) (by decide) ?_
  rintro _ μ3 ⟨rfl, e3⟩
  show pm_V _ _ _ _ 41 _ [] _
  refine pm_bl [(.aload_n 1, 1, 1, 0, 0), (.getfield 25, 3, 6, 4, 0), (.aload_n 0, 1, 0, 0, 0), (.getfield 25, 3, 6, 4, 0)] (pc1 := 49) (lo1 := [some (.ref 178), some (.ref 5)]) (st1 := [.ref 182, .ref 9]) (μ1 := μ3) (vc := True) rfl (by decide +kernel) rfl trivial ?_
  refine pm_callSN2 mi_X9_copyRow (ix := 28) (host := RX9) (kc2 := 0) (ks2 := 0) (As := [.ref 9, .ref 182]) (rest := []) (c_X9_copyRow (a := 9) (b := 182) (n := 20) μ3 rfl rfl (by decide)) cal_X9_copyRow (by decide +kernel) (by decide +kernel) (by decide +kernel) rfl rfl (Nat.le_of_ble_eq_true rfl) (by decide) (by decide) ?_
  rintro _ μ4 ⟨rfl, e4⟩
  show pm_V _ _ _ _ 52 _ [] _
  exact pm_vret rfl (by decide) (by decide) (by decide +kernel) (by
    subst e1; subst e2; subst e3; subst e4
    refine ⟨rfl, rfl, fun i hi => by rw [pm_row_off (by omega), pm_row_off (by omega), pm_row_off (by omega), pm_row_off (by omega), pm_set_off (by omega)], lr_Rp.mv (b := 1) (b2 := 174) hX hn (by simp only [Nat.reduceAdd]; rw [pm_row_off (by decide), pm_row_off (by decide), pm_row_off (by decide), pm_row_off (by decide), pm_set_hit]) (fun k i h1 h2 h3 => ?_) (fun _ _ _ => rfl)⟩
    rcases (show k = 5 ∨ k = 6 ∨ k = 7 ∨ k = 8 by omega) with rfl | rfl | rfl | rfl
    · simp only [Nat.reduceAdd]; rw [pm_row_off (by decide), pm_row_off (by decide), pm_row_off (by decide), pm_row_at]; unfold va_cpy; rw [if_pos (by omega), pm_set_off (by decide), show 0 + (i - 0) = i from by omega]
    · simp only [Nat.reduceAdd]; rw [pm_row_off (by decide), pm_row_off (by decide), pm_row_at]; unfold va_cpy; rw [if_pos (by omega), pm_row_off (by decide), pm_set_off (by decide), show 0 + (i - 0) = i from by omega]
    · simp only [Nat.reduceAdd]; rw [pm_row_off (by decide), pm_row_at]; unfold va_cpy; rw [if_pos (by omega), pm_row_off (by decide), pm_row_off (by decide), pm_set_off (by decide), show 0 + (i - 0) = i from by omega]
    · simp only [Nat.reduceAdd]; rw [pm_row_at]; unfold va_cpy; rw [if_pos (by omega), pm_row_off (by decide), pm_row_off (by decide), pm_row_off (by decide), pm_set_off (by decide), show 0 + (i - 0) = i from by omega])
set_option maxHeartbeats 4000000 in
set_option maxRecDepth 100000 in
theorem c_X8_copyFrom_174_1 {g : Nat → Int32} (μ : pm_Mm) (hX : lr_Rw μ.1 1 g) (hn : lr_n g 116 ≤ 10) : pm_CT mi_X8_copyFrom [.ref 183, .ref 10] μ (fun v μ2 => v = none ∧ μ2.2 = μ.2 ∧ (∀ i, (i < 183 ∨ 188 < i) → μ2.1 i = μ.1 i) ∧ lr_Rw μ2.1 174 g) pm_NX := by
  refine pm_CT_of (lo := [some (.ref 183), some (.ref 10)]) (by decide +kernel) rfl rfl (by intro v hv; simp at hv; rcases hv with rfl | rfl <;> rfl) (Nat.le_of_ble_eq_true rfl) rfl ?_
  refine pm_bl [(.aload_n 0, 1, 0, 0, 0), (.aload_n 1, 1, 1, 0, 0), (.getfield 9, 3, 8, 0, 0), (.putfield 9, 3, 8, 0, 0), (.aload_n 1, 1, 1, 0, 0), (.getfield 15, 3, 8, 1, 0), (.aload_n 0, 1, 0, 0, 0), (.getfield 15, 3, 8, 1, 0)] (pc1 := 16) (lo1 := [some (.ref 183), some (.ref 10)]) (st1 := [.ref 184, .ref 11]) (μ1 := pm_set μ 183 0 (μ.1 10 0)) (vc := True) rfl (by decide +kernel) rfl trivial ?_
  refine pm_callSN2 mi_X9_copyRow (ix := 31) (host := RX9) (kc2 := 0) (ks2 := 0) (As := [.ref 11, .ref 184]) (rest := []) (c_X9_copyRow (a := 11) (b := 184) (n := 10) (pm_set μ 183 0 (μ.1 10 0)) rfl rfl (by decide)) cal_X9_copyRow (by decide +kernel) (by decide +kernel) (by decide +kernel) rfl rfl (Nat.le_of_ble_eq_true rfl) (by decide) (by decide) ?_
  rintro _ μ1 ⟨rfl, e1⟩
  show pm_V _ _ _ _ 19 _ [] _
  refine pm_bl [(.aload_n 1, 1, 1, 0, 0), (.getfield 19, 3, 8, 2, 0), (.aload_n 0, 1, 0, 0, 0), (.getfield 19, 3, 8, 2, 0)] (pc1 := 27) (lo1 := [some (.ref 183), some (.ref 10)]) (st1 := [.ref 185, .ref 12]) (μ1 := μ1) (vc := True) rfl (by decide +kernel) rfl trivial ?_
  refine pm_callSN2 mi_X9_copyRow (ix := 31) (host := RX9) (kc2 := 0) (ks2 := 0) (As := [.ref 12, .ref 185]) (rest := []) (c_X9_copyRow (a := 12) (b := 185) (n := 10) μ1 rfl rfl (by decide)) cal_X9_copyRow (by decide +kernel) (by decide +kernel) (by decide +kernel) rfl rfl (Nat.le_of_ble_eq_true rfl) (by decide) (by decide) ?_
  rintro _ μ2 ⟨rfl, e2⟩
  show pm_V _ _ _ _ 30 _ [] _
  refine pm_bl [(.aload_n 1, 1, 1, 0, 0), (.getfield 22, 3, 8, 3, 0), (.aload_n 0, 1, 0, 0, 0), (.getfield 22, 3, 8, 3, 0)] (pc1 := 38) (lo1 := [some (.ref 183), some (.ref 10)]) (st1 := [.ref 186, .ref 13]) (μ1 := μ2) (vc := True) rfl (by decide +kernel) rfl trivial ?_
  refine pm_callSN2 mi_X9_copyRow (ix := 31) (host := RX9) (kc2 := 0) (ks2 := 0) (As := [.ref 13, .ref 186]) (rest := []) (c_X9_copyRow (a := 13) (b := 186) (n := 10) μ2 rfl rfl (by decide)) cal_X9_copyRow (by decide +kernel) (by decide +kernel) (by decide +kernel) rfl rfl (Nat.le_of_ble_eq_true rfl) (by decide) (by decide) ?_
  rintro _ μ3 ⟨rfl, e3⟩
  show pm_V _ _ _ _ 41 _ [] _
  refine pm_bl [(.aload_n 1, 1, 1, 0, 0), (.getfield 25, 3, 8, 4, 0), (.aload_n 0, 1, 0, 0, 0), (.getfield 25, 3, 8, 4, 0)] (pc1 := 49) (lo1 := [some (.ref 183), some (.ref 10)]) (st1 := [.ref 187, .ref 14]) (μ1 := μ3) (vc := True) rfl (by decide +kernel) rfl trivial ?_
  refine pm_callSN2 mi_X9_copyRow (ix := 31) (host := RX9) (kc2 := 0) (ks2 := 0) (As := [.ref 14, .ref 187]) (rest := []) (c_X9_copyRow (a := 14) (b := 187) (n := 10) μ3 rfl rfl (by decide)) cal_X9_copyRow (by decide +kernel) (by decide +kernel) (by decide +kernel) rfl rfl (Nat.le_of_ble_eq_true rfl) (by decide) (by decide) ?_
  rintro _ μ4 ⟨rfl, e4⟩
  show pm_V _ _ _ _ 52 _ [] _
  refine pm_bl [(.aload_n 1, 1, 1, 0, 0), (.getfield 28, 3, 8, 5, 0), (.aload_n 0, 1, 0, 0, 0), (.getfield 28, 3, 8, 5, 0)] (pc1 := 60) (lo1 := [some (.ref 183), some (.ref 10)]) (st1 := [.ref 188, .ref 15]) (μ1 := μ4) (vc := True) rfl (by decide +kernel) rfl trivial ?_
  refine pm_callSN2 mi_X9_copyRow (ix := 31) (host := RX9) (kc2 := 0) (ks2 := 0) (As := [.ref 15, .ref 188]) (rest := []) (c_X9_copyRow (a := 15) (b := 188) (n := 10) μ4 rfl rfl (by decide)) cal_X9_copyRow (by decide +kernel) (by decide +kernel) (by decide +kernel) rfl rfl (Nat.le_of_ble_eq_true rfl) (by decide) (by decide) ?_
  rintro _ μ5 ⟨rfl, e5⟩
  show pm_V _ _ _ _ 63 _ [] _
  exact pm_vret rfl (by decide) (by decide) (by decide +kernel) (by
    subst e1; subst e2; subst e3; subst e4; subst e5
    refine ⟨rfl, rfl, fun i hi => by rw [pm_row_off (by omega), pm_row_off (by omega), pm_row_off (by omega), pm_row_off (by omega), pm_row_off (by omega), pm_set_off (by omega)], lr_Rw.mv (b := 1) (b2 := 174) hX hn (by simp only [Nat.reduceAdd]; rw [pm_row_off (by decide), pm_row_off (by decide), pm_row_off (by decide), pm_row_off (by decide), pm_row_off (by decide), pm_set_hit]) (fun k i h1 h2 h3 => ?_) (fun _ _ _ => rfl)⟩
    rcases (show k = 10 ∨ k = 11 ∨ k = 12 ∨ k = 13 ∨ k = 14 by omega) with rfl | rfl | rfl | rfl | rfl
    · simp only [Nat.reduceAdd]; rw [pm_row_off (by decide), pm_row_off (by decide), pm_row_off (by decide), pm_row_off (by decide), pm_row_at]; unfold va_cpy; rw [if_pos (by omega), pm_set_off (by decide), show 0 + (i - 0) = i from by omega]
    · simp only [Nat.reduceAdd]; rw [pm_row_off (by decide), pm_row_off (by decide), pm_row_off (by decide), pm_row_at]; unfold va_cpy; rw [if_pos (by omega), pm_row_off (by decide), pm_set_off (by decide), show 0 + (i - 0) = i from by omega]
    · simp only [Nat.reduceAdd]; rw [pm_row_off (by decide), pm_row_off (by decide), pm_row_at]; unfold va_cpy; rw [if_pos (by omega), pm_row_off (by decide), pm_row_off (by decide), pm_set_off (by decide), show 0 + (i - 0) = i from by omega]
    · simp only [Nat.reduceAdd]; rw [pm_row_off (by decide), pm_row_at]; unfold va_cpy; rw [if_pos (by omega), pm_row_off (by decide), pm_row_off (by decide), pm_row_off (by decide), pm_set_off (by decide), show 0 + (i - 0) = i from by omega]
    · simp only [Nat.reduceAdd]; rw [pm_row_at]; unfold va_cpy; rw [if_pos (by omega), pm_row_off (by decide), pm_row_off (by decide), pm_row_off (by decide), pm_row_off (by decide), pm_set_off (by decide), show 0 + (i - 0) = i from by omega])
set_option maxHeartbeats 4000000 in
set_option maxRecDepth 100000 in
theorem c_X7_copyFrom_174_1 {g : Nat → Int32} (μ : pm_Mm) (hX : lr_Rr μ.1 1 g) (hn : lr_n g 167 ≤ 12) : pm_CT mi_X7_copyFrom [.ref 189, .ref 16] μ (fun v μ2 => v = none ∧ μ2.2 = μ.2 ∧ (∀ i, (i < 189 ∨ 194 < i) → μ2.1 i = μ.1 i) ∧ lr_Rr μ2.1 174 g) pm_NX := by
  refine pm_CT_of (lo := [some (.ref 189), some (.ref 16)]) (by decide +kernel) rfl rfl (by intro v hv; simp at hv; rcases hv with rfl | rfl <;> rfl) (Nat.le_of_ble_eq_true rfl) rfl ?_
  refine pm_bl [(.aload_n 0, 1, 0, 0, 0), (.aload_n 1, 1, 1, 0, 0), (.getfield 9, 3, 7, 0, 0), (.putfield 9, 3, 7, 0, 0), (.aload_n 1, 1, 1, 0, 0), (.getfield 15, 3, 7, 1, 0), (.aload_n 0, 1, 0, 0, 0), (.getfield 15, 3, 7, 1, 0)] (pc1 := 16) (lo1 := [some (.ref 189), some (.ref 16)]) (st1 := [.ref 190, .ref 17]) (μ1 := pm_set μ 189 0 (μ.1 16 0)) (vc := True) rfl (by decide +kernel) rfl trivial ?_
  refine pm_callSN2 mi_X9_copyRow (ix := 31) (host := RX9) (kc2 := 0) (ks2 := 0) (As := [.ref 17, .ref 190]) (rest := []) (c_X9_copyRow (a := 17) (b := 190) (n := 12) (pm_set μ 189 0 (μ.1 16 0)) rfl rfl (by decide)) cal_X9_copyRow (by decide +kernel) (by decide +kernel) (by decide +kernel) rfl rfl (Nat.le_of_ble_eq_true rfl) (by decide) (by decide) ?_
  rintro _ μ1 ⟨rfl, e1⟩
  show pm_V _ _ _ _ 19 _ [] _
  refine pm_bl [(.aload_n 1, 1, 1, 0, 0), (.getfield 19, 3, 7, 2, 0), (.aload_n 0, 1, 0, 0, 0), (.getfield 19, 3, 7, 2, 0)] (pc1 := 27) (lo1 := [some (.ref 189), some (.ref 16)]) (st1 := [.ref 191, .ref 18]) (μ1 := μ1) (vc := True) rfl (by decide +kernel) rfl trivial ?_
  refine pm_callSN2 mi_X9_copyRow (ix := 31) (host := RX9) (kc2 := 0) (ks2 := 0) (As := [.ref 18, .ref 191]) (rest := []) (c_X9_copyRow (a := 18) (b := 191) (n := 12) μ1 rfl rfl (by decide)) cal_X9_copyRow (by decide +kernel) (by decide +kernel) (by decide +kernel) rfl rfl (Nat.le_of_ble_eq_true rfl) (by decide) (by decide) ?_
  rintro _ μ2 ⟨rfl, e2⟩
  show pm_V _ _ _ _ 30 _ [] _
  refine pm_bl [(.aload_n 1, 1, 1, 0, 0), (.getfield 22, 3, 7, 3, 0), (.aload_n 0, 1, 0, 0, 0), (.getfield 22, 3, 7, 3, 0)] (pc1 := 38) (lo1 := [some (.ref 189), some (.ref 16)]) (st1 := [.ref 192, .ref 19]) (μ1 := μ2) (vc := True) rfl (by decide +kernel) rfl trivial ?_
  refine pm_callSN2 mi_X9_copyRow (ix := 31) (host := RX9) (kc2 := 0) (ks2 := 0) (As := [.ref 19, .ref 192]) (rest := []) (c_X9_copyRow (a := 19) (b := 192) (n := 12) μ2 rfl rfl (by decide)) cal_X9_copyRow (by decide +kernel) (by decide +kernel) (by decide +kernel) rfl rfl (Nat.le_of_ble_eq_true rfl) (by decide) (by decide) ?_
  rintro _ μ3 ⟨rfl, e3⟩
  show pm_V _ _ _ _ 41 _ [] _
  refine pm_bl [(.aload_n 1, 1, 1, 0, 0), (.getfield 25, 3, 7, 4, 0), (.aload_n 0, 1, 0, 0, 0), (.getfield 25, 3, 7, 4, 0)] (pc1 := 49) (lo1 := [some (.ref 189), some (.ref 16)]) (st1 := [.ref 193, .ref 20]) (μ1 := μ3) (vc := True) rfl (by decide +kernel) rfl trivial ?_
  refine pm_callSN2 mi_X9_copyRow (ix := 31) (host := RX9) (kc2 := 0) (ks2 := 0) (As := [.ref 20, .ref 193]) (rest := []) (c_X9_copyRow (a := 20) (b := 193) (n := 12) μ3 rfl rfl (by decide)) cal_X9_copyRow (by decide +kernel) (by decide +kernel) (by decide +kernel) rfl rfl (Nat.le_of_ble_eq_true rfl) (by decide) (by decide) ?_
  rintro _ μ4 ⟨rfl, e4⟩
  show pm_V _ _ _ _ 52 _ [] _
  refine pm_bl [(.aload_n 1, 1, 1, 0, 0), (.getfield 28, 3, 7, 5, 0), (.aload_n 0, 1, 0, 0, 0), (.getfield 28, 3, 7, 5, 0)] (pc1 := 60) (lo1 := [some (.ref 189), some (.ref 16)]) (st1 := [.ref 194, .ref 21]) (μ1 := μ4) (vc := True) rfl (by decide +kernel) rfl trivial ?_
  refine pm_callSN2 mi_X9_copyRow (ix := 31) (host := RX9) (kc2 := 0) (ks2 := 0) (As := [.ref 21, .ref 194]) (rest := []) (c_X9_copyRow (a := 21) (b := 194) (n := 12) μ4 rfl rfl (by decide)) cal_X9_copyRow (by decide +kernel) (by decide +kernel) (by decide +kernel) rfl rfl (Nat.le_of_ble_eq_true rfl) (by decide) (by decide) ?_
  rintro _ μ5 ⟨rfl, e5⟩
  show pm_V _ _ _ _ 63 _ [] _
  exact pm_vret rfl (by decide) (by decide) (by decide +kernel) (by
    subst e1; subst e2; subst e3; subst e4; subst e5
    refine ⟨rfl, rfl, fun i hi => by rw [pm_row_off (by omega), pm_row_off (by omega), pm_row_off (by omega), pm_row_off (by omega), pm_row_off (by omega), pm_set_off (by omega)], lr_Rr.mv (b := 1) (b2 := 174) hX hn (by simp only [Nat.reduceAdd]; rw [pm_row_off (by decide), pm_row_off (by decide), pm_row_off (by decide), pm_row_off (by decide), pm_row_off (by decide), pm_set_hit]) (fun k i h1 h2 h3 => ?_) (fun _ _ _ => rfl)⟩
    rcases (show k = 16 ∨ k = 17 ∨ k = 18 ∨ k = 19 ∨ k = 20 by omega) with rfl | rfl | rfl | rfl | rfl
    · simp only [Nat.reduceAdd]; rw [pm_row_off (by decide), pm_row_off (by decide), pm_row_off (by decide), pm_row_off (by decide), pm_row_at]; unfold va_cpy; rw [if_pos (by omega), pm_set_off (by decide), show 0 + (i - 0) = i from by omega]
    · simp only [Nat.reduceAdd]; rw [pm_row_off (by decide), pm_row_off (by decide), pm_row_off (by decide), pm_row_at]; unfold va_cpy; rw [if_pos (by omega), pm_row_off (by decide), pm_set_off (by decide), show 0 + (i - 0) = i from by omega]
    · simp only [Nat.reduceAdd]; rw [pm_row_off (by decide), pm_row_off (by decide), pm_row_at]; unfold va_cpy; rw [if_pos (by omega), pm_row_off (by decide), pm_row_off (by decide), pm_set_off (by decide), show 0 + (i - 0) = i from by omega]
    · simp only [Nat.reduceAdd]; rw [pm_row_off (by decide), pm_row_at]; unfold va_cpy; rw [if_pos (by omega), pm_row_off (by decide), pm_row_off (by decide), pm_row_off (by decide), pm_set_off (by decide), show 0 + (i - 0) = i from by omega]
    · simp only [Nat.reduceAdd]; rw [pm_row_at]; unfold va_cpy; rw [if_pos (by omega), pm_row_off (by decide), pm_row_off (by decide), pm_row_off (by decide), pm_row_off (by decide), pm_set_off (by decide), show 0 + (i - 0) = i from by omega])
set_option maxHeartbeats 4000000 in
set_option maxRecDepth 100000 in
theorem c_X0_copyFrom_174_1 {g : Nat → Int32} (μ : pm_Mm) (hX : lr_Ra μ.1 1 g) (hn : lr_n g 228 ≤ 20) : pm_CT mi_X0_copyFrom [.ref 195, .ref 22] μ (fun v μ2 => v = none ∧ μ2.2 = μ.2 ∧ (∀ i, (i < 195 ∨ 198 < i) → μ2.1 i = μ.1 i) ∧ lr_Ra μ2.1 174 g) pm_NX := by
  refine pm_CT_of (lo := [some (.ref 195), some (.ref 22)]) (by decide +kernel) rfl rfl (by intro v hv; simp at hv; rcases hv with rfl | rfl <;> rfl) (Nat.le_of_ble_eq_true rfl) rfl ?_
  refine pm_bl [(.aload_n 0, 1, 0, 0, 0), (.aload_n 1, 1, 1, 0, 0), (.getfield 9, 3, 0, 0, 0), (.putfield 9, 3, 0, 0, 0), (.aload_n 1, 1, 1, 0, 0), (.getfield 15, 3, 0, 1, 0), (.aload_n 0, 1, 0, 0, 0), (.getfield 15, 3, 0, 1, 0)] (pc1 := 16) (lo1 := [some (.ref 195), some (.ref 22)]) (st1 := [.ref 196, .ref 23]) (μ1 := pm_set μ 195 0 (μ.1 22 0)) (vc := True) rfl (by decide +kernel) rfl trivial ?_
  refine pm_callSN2 mi_X9_copyRow (ix := 25) (host := RX9) (kc2 := 0) (ks2 := 0) (As := [.ref 23, .ref 196]) (rest := []) (c_X9_copyRow (a := 23) (b := 196) (n := 20) (pm_set μ 195 0 (μ.1 22 0)) rfl rfl (by decide)) cal_X9_copyRow (by decide +kernel) (by decide +kernel) (by decide +kernel) rfl rfl (Nat.le_of_ble_eq_true rfl) (by decide) (by decide) ?_
  rintro _ μ1 ⟨rfl, e1⟩
  show pm_V _ _ _ _ 19 _ [] _
  refine pm_bl [(.aload_n 1, 1, 1, 0, 0), (.getfield 19, 3, 0, 2, 0), (.aload_n 0, 1, 0, 0, 0), (.getfield 19, 3, 0, 2, 0)] (pc1 := 27) (lo1 := [some (.ref 195), some (.ref 22)]) (st1 := [.ref 197, .ref 24]) (μ1 := μ1) (vc := True) rfl (by decide +kernel) rfl trivial ?_
  refine pm_callSN2 mi_X9_copyRow (ix := 25) (host := RX9) (kc2 := 0) (ks2 := 0) (As := [.ref 24, .ref 197]) (rest := []) (c_X9_copyRow (a := 24) (b := 197) (n := 20) μ1 rfl rfl (by decide)) cal_X9_copyRow (by decide +kernel) (by decide +kernel) (by decide +kernel) rfl rfl (Nat.le_of_ble_eq_true rfl) (by decide) (by decide) ?_
  rintro _ μ2 ⟨rfl, e2⟩
  show pm_V _ _ _ _ 30 _ [] _
  refine pm_bl [(.aload_n 1, 1, 1, 0, 0), (.getfield 22, 3, 0, 3, 0), (.aload_n 0, 1, 0, 0, 0), (.getfield 22, 3, 0, 3, 0)] (pc1 := 38) (lo1 := [some (.ref 195), some (.ref 22)]) (st1 := [.ref 198, .ref 25]) (μ1 := μ2) (vc := True) rfl (by decide +kernel) rfl trivial ?_
  refine pm_callSN2 mi_X9_copyRow (ix := 25) (host := RX9) (kc2 := 0) (ks2 := 0) (As := [.ref 25, .ref 198]) (rest := []) (c_X9_copyRow (a := 25) (b := 198) (n := 20) μ2 rfl rfl (by decide)) cal_X9_copyRow (by decide +kernel) (by decide +kernel) (by decide +kernel) rfl rfl (Nat.le_of_ble_eq_true rfl) (by decide) (by decide) ?_
  rintro _ μ3 ⟨rfl, e3⟩
  show pm_V _ _ _ _ 41 _ [] _
  exact pm_vret rfl (by decide) (by decide) (by decide +kernel) (by
    subst e1; subst e2; subst e3
    refine ⟨rfl, rfl, fun i hi => by rw [pm_row_off (by omega), pm_row_off (by omega), pm_row_off (by omega), pm_set_off (by omega)], lr_Ra.mv (b := 1) (b2 := 174) hX hn (by simp only [Nat.reduceAdd]; rw [pm_row_off (by decide), pm_row_off (by decide), pm_row_off (by decide), pm_set_hit]) (fun k i h1 h2 h3 => ?_) (fun _ _ _ => rfl)⟩
    rcases (show k = 22 ∨ k = 23 ∨ k = 24 by omega) with rfl | rfl | rfl
    · simp only [Nat.reduceAdd]; rw [pm_row_off (by decide), pm_row_off (by decide), pm_row_at]; unfold va_cpy; rw [if_pos (by omega), pm_set_off (by decide), show 0 + (i - 0) = i from by omega]
    · simp only [Nat.reduceAdd]; rw [pm_row_off (by decide), pm_row_at]; unfold va_cpy; rw [if_pos (by omega), pm_row_off (by decide), pm_set_off (by decide), show 0 + (i - 0) = i from by omega]
    · simp only [Nat.reduceAdd]; rw [pm_row_at]; unfold va_cpy; rw [if_pos (by omega), pm_row_off (by decide), pm_row_off (by decide), pm_set_off (by decide), show 0 + (i - 0) = i from by omega])
set_option maxHeartbeats 4000000 in
set_option maxRecDepth 100000 in
theorem c_X4_copyFrom_174_1 {g : Nat → Int32} (μ : pm_Mm) (hX : lr_Rl μ.1 1 g) (hn : lr_n g 289 ≤ 30) : pm_CT mi_X4_copyFrom [.ref 199, .ref 26] μ (fun v μ2 => v = none ∧ μ2.2 = μ.2 ∧ (∀ i, (i < 199 ∨ 211 < i) → μ2.1 i = μ.1 i) ∧ lr_Rl μ2.1 174 g) pm_NX := by
  refine pm_CT_of (lo := [some (.ref 199), some (.ref 26)]) (by decide +kernel) rfl rfl (by intro v hv; simp at hv; rcases hv with rfl | rfl <;> rfl) (Nat.le_of_ble_eq_true rfl) rfl ?_
  refine pm_bl [(.aload_n 0, 1, 0, 0, 0), (.aload_n 1, 1, 1, 0, 0), (.getfield 9, 3, 4, 0, 0), (.putfield 9, 3, 4, 0, 0), (.aload_n 0, 1, 0, 0, 0), (.aload_n 1, 1, 1, 0, 0), (.getfield 15, 3, 4, 1, 0), (.putfield 15, 3, 4, 1, 0), (.aload_n 1, 1, 1, 0, 0), (.getfield 18, 3, 4, 2, 0), (.aload_n 0, 1, 0, 0, 0), (.getfield 18, 3, 4, 2, 0)] (pc1 := 24) (lo1 := [some (.ref 199), some (.ref 26)]) (st1 := [.ref 200, .ref 27]) (μ1 := pm_set (pm_set μ 199 0 (μ.1 26 0)) 199 1 ((pm_set μ 199 0 (μ.1 26 0)).1 26 1)) (vc := True) rfl (by decide +kernel) rfl trivial ?_
  rw [show (pm_set μ 199 0 (μ.1 26 0)).1 26 1 = μ.1 26 1 from by simp [pm_set]]
  refine pm_callSN2 mi_X9_copyRow (ix := 55) (host := RX9) (kc2 := 0) (ks2 := 0) (As := [.ref 27, .ref 200]) (rest := []) (c_X9_copyRow (a := 27) (b := 200) (n := 30) (pm_set (pm_set μ 199 0 (μ.1 26 0)) 199 1 (μ.1 26 1)) rfl rfl (by decide)) cal_X9_copyRow (by decide +kernel) (by decide +kernel) (by decide +kernel) rfl rfl (Nat.le_of_ble_eq_true rfl) (by decide) (by decide) ?_
  rintro _ μ1 ⟨rfl, e1⟩
  show pm_V _ _ _ _ 27 _ [] _
  refine pm_bl [(.aload_n 1, 1, 1, 0, 0), (.getfield 22, 3, 4, 3, 0), (.aload_n 0, 1, 0, 0, 0), (.getfield 22, 3, 4, 3, 0)] (pc1 := 35) (lo1 := [some (.ref 199), some (.ref 26)]) (st1 := [.ref 201, .ref 28]) (μ1 := μ1) (vc := True) rfl (by decide +kernel) rfl trivial ?_
  refine pm_callSN2 mi_X9_copyRow (ix := 55) (host := RX9) (kc2 := 0) (ks2 := 0) (As := [.ref 28, .ref 201]) (rest := []) (c_X9_copyRow (a := 28) (b := 201) (n := 30) μ1 rfl rfl (by decide)) cal_X9_copyRow (by decide +kernel) (by decide +kernel) (by decide +kernel) rfl rfl (Nat.le_of_ble_eq_true rfl) (by decide) (by decide) ?_
  rintro _ μ2 ⟨rfl, e2⟩
  show pm_V _ _ _ _ 38 _ [] _
  refine pm_bl [(.aload_n 1, 1, 1, 0, 0), (.getfield 25, 3, 4, 4, 0), (.aload_n 0, 1, 0, 0, 0), (.getfield 25, 3, 4, 4, 0)] (pc1 := 46) (lo1 := [some (.ref 199), some (.ref 26)]) (st1 := [.ref 202, .ref 29]) (μ1 := μ2) (vc := True) rfl (by decide +kernel) rfl trivial ?_
  refine pm_callSN2 mi_X9_copyRow (ix := 55) (host := RX9) (kc2 := 0) (ks2 := 0) (As := [.ref 29, .ref 202]) (rest := []) (c_X9_copyRow (a := 29) (b := 202) (n := 30) μ2 rfl rfl (by decide)) cal_X9_copyRow (by decide +kernel) (by decide +kernel) (by decide +kernel) rfl rfl (Nat.le_of_ble_eq_true rfl) (by decide) (by decide) ?_
  rintro _ μ3 ⟨rfl, e3⟩
  show pm_V _ _ _ _ 49 _ [] _
  refine pm_bl [(.aload_n 1, 1, 1, 0, 0), (.getfield 28, 3, 4, 5, 0), (.aload_n 0, 1, 0, 0, 0), (.getfield 28, 3, 4, 5, 0)] (pc1 := 57) (lo1 := [some (.ref 199), some (.ref 26)]) (st1 := [.ref 203, .ref 30]) (μ1 := μ3) (vc := True) rfl (by decide +kernel) rfl trivial ?_
  refine pm_callSN2 mi_X9_copyRow (ix := 55) (host := RX9) (kc2 := 0) (ks2 := 0) (As := [.ref 30, .ref 203]) (rest := []) (c_X9_copyRow (a := 30) (b := 203) (n := 30) μ3 rfl rfl (by decide)) cal_X9_copyRow (by decide +kernel) (by decide +kernel) (by decide +kernel) rfl rfl (Nat.le_of_ble_eq_true rfl) (by decide) (by decide) ?_
  rintro _ μ4 ⟨rfl, e4⟩
  show pm_V _ _ _ _ 60 _ [] _
  refine pm_bl [(.aload_n 1, 1, 1, 0, 0), (.getfield 31, 3, 4, 6, 0), (.aload_n 0, 1, 0, 0, 0), (.getfield 31, 3, 4, 6, 0)] (pc1 := 68) (lo1 := [some (.ref 199), some (.ref 26)]) (st1 := [.ref 204, .ref 31]) (μ1 := μ4) (vc := True) rfl (by decide +kernel) rfl trivial ?_
  refine pm_callSN2 mi_X9_copyRow (ix := 55) (host := RX9) (kc2 := 0) (ks2 := 0) (As := [.ref 31, .ref 204]) (rest := []) (c_X9_copyRow (a := 31) (b := 204) (n := 30) μ4 rfl rfl (by decide)) cal_X9_copyRow (by decide +kernel) (by decide +kernel) (by decide +kernel) rfl rfl (Nat.le_of_ble_eq_true rfl) (by decide) (by decide) ?_
  rintro _ μ5 ⟨rfl, e5⟩
  show pm_V _ _ _ _ 71 _ [] _
  refine pm_bl [(.aload_n 1, 1, 1, 0, 0), (.getfield 34, 3, 4, 7, 0), (.aload_n 0, 1, 0, 0, 0), (.getfield 34, 3, 4, 7, 0)] (pc1 := 79) (lo1 := [some (.ref 199), some (.ref 26)]) (st1 := [.ref 205, .ref 32]) (μ1 := μ5) (vc := True) rfl (by decide +kernel) rfl trivial ?_
  refine pm_callSN2 mi_X9_copyRow (ix := 55) (host := RX9) (kc2 := 0) (ks2 := 0) (As := [.ref 32, .ref 205]) (rest := []) (c_X9_copyRow (a := 32) (b := 205) (n := 30) μ5 rfl rfl (by decide)) cal_X9_copyRow (by decide +kernel) (by decide +kernel) (by decide +kernel) rfl rfl (Nat.le_of_ble_eq_true rfl) (by decide) (by decide) ?_
  rintro _ μ6 ⟨rfl, e6⟩
  show pm_V _ _ _ _ 82 _ [] _
  refine pm_bl [(.aload_n 1, 1, 1, 0, 0), (.getfield 37, 3, 4, 8, 0), (.aload_n 0, 1, 0, 0, 0), (.getfield 37, 3, 4, 8, 0)] (pc1 := 90) (lo1 := [some (.ref 199), some (.ref 26)]) (st1 := [.ref 206, .ref 33]) (μ1 := μ6) (vc := True) rfl (by decide +kernel) rfl trivial ?_
  refine pm_callSN2 mi_X9_copyRow (ix := 55) (host := RX9) (kc2 := 0) (ks2 := 0) (As := [.ref 33, .ref 206]) (rest := []) (c_X9_copyRow (a := 33) (b := 206) (n := 30) μ6 rfl rfl (by decide)) cal_X9_copyRow (by decide +kernel) (by decide +kernel) (by decide +kernel) rfl rfl (Nat.le_of_ble_eq_true rfl) (by decide) (by decide) ?_
  rintro _ μ7 ⟨rfl, e7⟩
  show pm_V _ _ _ _ 93 _ [] _
  refine pm_bl [(.aload_n 1, 1, 1, 0, 0), (.getfield 40, 3, 4, 9, 0), (.aload_n 0, 1, 0, 0, 0), (.getfield 40, 3, 4, 9, 0)] (pc1 := 101) (lo1 := [some (.ref 199), some (.ref 26)]) (st1 := [.ref 207, .ref 34]) (μ1 := μ7) (vc := True) rfl (by decide +kernel) rfl trivial ?_
  refine pm_callSN2 mi_X9_copyRow (ix := 55) (host := RX9) (kc2 := 0) (ks2 := 0) (As := [.ref 34, .ref 207]) (rest := []) (c_X9_copyRow (a := 34) (b := 207) (n := 30) μ7 rfl rfl (by decide)) cal_X9_copyRow (by decide +kernel) (by decide +kernel) (by decide +kernel) rfl rfl (Nat.le_of_ble_eq_true rfl) (by decide) (by decide) ?_
  rintro _ μ8 ⟨rfl, e8⟩
  show pm_V _ _ _ _ 104 _ [] _
  refine pm_bl [(.aload_n 1, 1, 1, 0, 0), (.getfield 43, 3, 4, 10, 0), (.aload_n 0, 1, 0, 0, 0), (.getfield 43, 3, 4, 10, 0)] (pc1 := 112) (lo1 := [some (.ref 199), some (.ref 26)]) (st1 := [.ref 208, .ref 35]) (μ1 := μ8) (vc := True) rfl (by decide +kernel) rfl trivial ?_
  refine pm_callSN2 mi_X9_copyRow (ix := 55) (host := RX9) (kc2 := 0) (ks2 := 0) (As := [.ref 35, .ref 208]) (rest := []) (c_X9_copyRow (a := 35) (b := 208) (n := 30) μ8 rfl rfl (by decide)) cal_X9_copyRow (by decide +kernel) (by decide +kernel) (by decide +kernel) rfl rfl (Nat.le_of_ble_eq_true rfl) (by decide) (by decide) ?_
  rintro _ μ9 ⟨rfl, e9⟩
  show pm_V _ _ _ _ 115 _ [] _
  refine pm_bl [(.aload_n 1, 1, 1, 0, 0), (.getfield 46, 3, 4, 11, 0), (.aload_n 0, 1, 0, 0, 0), (.getfield 46, 3, 4, 11, 0)] (pc1 := 123) (lo1 := [some (.ref 199), some (.ref 26)]) (st1 := [.ref 209, .ref 36]) (μ1 := μ9) (vc := True) rfl (by decide +kernel) rfl trivial ?_
  refine pm_callSN2 mi_X9_copyRow (ix := 55) (host := RX9) (kc2 := 0) (ks2 := 0) (As := [.ref 36, .ref 209]) (rest := []) (c_X9_copyRow (a := 36) (b := 209) (n := 30) μ9 rfl rfl (by decide)) cal_X9_copyRow (by decide +kernel) (by decide +kernel) (by decide +kernel) rfl rfl (Nat.le_of_ble_eq_true rfl) (by decide) (by decide) ?_
  rintro _ μ10 ⟨rfl, e10⟩
  show pm_V _ _ _ _ 126 _ [] _
  refine pm_bl [(.aload_n 1, 1, 1, 0, 0), (.getfield 49, 3, 4, 12, 0), (.aload_n 0, 1, 0, 0, 0), (.getfield 49, 3, 4, 12, 0)] (pc1 := 134) (lo1 := [some (.ref 199), some (.ref 26)]) (st1 := [.ref 210, .ref 37]) (μ1 := μ10) (vc := True) rfl (by decide +kernel) rfl trivial ?_
  refine pm_callSN2 mi_X9_copyRow (ix := 55) (host := RX9) (kc2 := 0) (ks2 := 0) (As := [.ref 37, .ref 210]) (rest := []) (c_X9_copyRow (a := 37) (b := 210) (n := 30) μ10 rfl rfl (by decide)) cal_X9_copyRow (by decide +kernel) (by decide +kernel) (by decide +kernel) rfl rfl (Nat.le_of_ble_eq_true rfl) (by decide) (by decide) ?_
  rintro _ μ11 ⟨rfl, e11⟩
  show pm_V _ _ _ _ 137 _ [] _
  refine pm_bl [(.aload_n 1, 1, 1, 0, 0), (.getfield 52, 3, 4, 13, 0), (.aload_n 0, 1, 0, 0, 0), (.getfield 52, 3, 4, 13, 0)] (pc1 := 145) (lo1 := [some (.ref 199), some (.ref 26)]) (st1 := [.ref 211, .ref 38]) (μ1 := μ11) (vc := True) rfl (by decide +kernel) rfl trivial ?_
  refine pm_callSN2 mi_X9_copyRow (ix := 55) (host := RX9) (kc2 := 0) (ks2 := 0) (As := [.ref 38, .ref 211]) (rest := []) (c_X9_copyRow (a := 38) (b := 211) (n := 30) μ11 rfl rfl (by decide)) cal_X9_copyRow (by decide +kernel) (by decide +kernel) (by decide +kernel) rfl rfl (Nat.le_of_ble_eq_true rfl) (by decide) (by decide) ?_
  rintro _ μ12 ⟨rfl, e12⟩
  show pm_V _ _ _ _ 148 _ [] _
  exact pm_vret rfl (by decide) (by decide) (by decide +kernel) (by
    subst e1; subst e2; subst e3; subst e4; subst e5; subst e6; subst e7; subst e8; subst e9; subst e10; subst e11; subst e12
    refine ⟨rfl, rfl, fun i hi => by rw [pm_row_off (by omega), pm_row_off (by omega), pm_row_off (by omega), pm_row_off (by omega), pm_row_off (by omega), pm_row_off (by omega), pm_row_off (by omega), pm_row_off (by omega), pm_row_off (by omega), pm_row_off (by omega), pm_row_off (by omega), pm_row_off (by omega), pm_set_off (by omega), pm_set_off (by omega)], lr_Rl.mv (b := 1) (b2 := 174) hX hn (by simp only [Nat.reduceAdd]; rw [pm_row_off (by decide), pm_row_off (by decide), pm_row_off (by decide), pm_row_off (by decide), pm_row_off (by decide), pm_row_off (by decide), pm_row_off (by decide), pm_row_off (by decide), pm_row_off (by decide), pm_row_off (by decide), pm_row_off (by decide), pm_row_off (by decide), pm_set_miss (Or.inr (by decide)), pm_set_hit]) (by simp only [Nat.reduceAdd]; rw [pm_row_off (by decide), pm_row_off (by decide), pm_row_off (by decide), pm_row_off (by decide), pm_row_off (by decide), pm_row_off (by decide), pm_row_off (by decide), pm_row_off (by decide), pm_row_off (by decide), pm_row_off (by decide), pm_row_off (by decide), pm_row_off (by decide), pm_set_hit]) (fun k i h1 h2 h3 => ?_) (fun _ _ _ => rfl) rfl⟩
    rcases (show k = 26 ∨ k = 27 ∨ k = 28 ∨ k = 29 ∨ k = 30 ∨ k = 31 ∨ k = 32 ∨ k = 33 ∨ k = 34 ∨ k = 35 ∨ k = 36 ∨ k = 37 by omega) with rfl | rfl | rfl | rfl | rfl | rfl | rfl | rfl | rfl | rfl | rfl | rfl
    · simp only [Nat.reduceAdd]; rw [pm_row_off (by decide), pm_row_off (by decide), pm_row_off (by decide), pm_row_off (by decide), pm_row_off (by decide), pm_row_off (by decide), pm_row_off (by decide), pm_row_off (by decide), pm_row_off (by decide), pm_row_off (by decide), pm_row_off (by decide), pm_row_at]; unfold va_cpy; rw [if_pos (by omega), pm_set_off (by decide), pm_set_off (by decide), show 0 + (i - 0) = i from by omega]
    · simp only [Nat.reduceAdd]; rw [pm_row_off (by decide), pm_row_off (by decide), pm_row_off (by decide), pm_row_off (by decide), pm_row_off (by decide), pm_row_off (by decide), pm_row_off (by decide), pm_row_off (by decide), pm_row_off (by decide), pm_row_off (by decide), pm_row_at]; unfold va_cpy; rw [if_pos (by omega), pm_row_off (by decide), pm_set_off (by decide), pm_set_off (by decide), show 0 + (i - 0) = i from by omega]
    · simp only [Nat.reduceAdd]; rw [pm_row_off (by decide), pm_row_off (by decide), pm_row_off (by decide), pm_row_off (by decide), pm_row_off (by decide), pm_row_off (by decide), pm_row_off (by decide), pm_row_off (by decide), pm_row_off (by decide), pm_row_at]; unfold va_cpy; rw [if_pos (by omega), pm_row_off (by decide), pm_row_off (by decide), pm_set_off (by decide), pm_set_off (by decide), show 0 + (i - 0) = i from by omega]
    · simp only [Nat.reduceAdd]; rw [pm_row_off (by decide), pm_row_off (by decide), pm_row_off (by decide), pm_row_off (by decide), pm_row_off (by decide), pm_row_off (by decide), pm_row_off (by decide), pm_row_off (by decide), pm_row_at]; unfold va_cpy; rw [if_pos (by omega), pm_row_off (by decide), pm_row_off (by decide), pm_row_off (by decide), pm_set_off (by decide), pm_set_off (by decide), show 0 + (i - 0) = i from by omega]
    · simp only [Nat.reduceAdd]; rw [pm_row_off (by decide), pm_row_off (by decide), pm_row_off (by decide), pm_row_off (by decide), pm_row_off (by decide), pm_row_off (by decide), pm_row_off (by decide), pm_row_at]; unfold va_cpy; rw [if_pos (by omega), pm_row_off (by decide), pm_row_off (by decide), pm_row_off (by decide), pm_row_off (by decide), pm_set_off (by decide), pm_set_off (by decide), show 0 + (i - 0) = i from by omega]
    · simp only [Nat.reduceAdd]; rw [pm_row_off (by decide), pm_row_off (by decide), pm_row_off (by decide), pm_row_off (by decide), pm_row_off (by decide), pm_row_off (by decide), pm_row_at]; unfold va_cpy; rw [if_pos (by omega), pm_row_off (by decide), pm_row_off (by decide), pm_row_off (by decide), pm_row_off (by decide), pm_row_off (by decide), pm_set_off (by decide), pm_set_off (by decide), show 0 + (i - 0) = i from by omega]
    · simp only [Nat.reduceAdd]; rw [pm_row_off (by decide), pm_row_off (by decide), pm_row_off (by decide), pm_row_off (by decide), pm_row_off (by decide), pm_row_at]; unfold va_cpy; rw [if_pos (by omega), pm_row_off (by decide), pm_row_off (by decide), pm_row_off (by decide), pm_row_off (by decide), pm_row_off (by decide), pm_row_off (by decide), pm_set_off (by decide), pm_set_off (by decide), show 0 + (i - 0) = i from by omega]
    · simp only [Nat.reduceAdd]; rw [pm_row_off (by decide), pm_row_off (by decide), pm_row_off (by decide), pm_row_off (by decide), pm_row_at]; unfold va_cpy; rw [if_pos (by omega), pm_row_off (by decide), pm_row_off (by decide), pm_row_off (by decide), pm_row_off (by decide), pm_row_off (by decide), pm_row_off (by decide), pm_row_off (by decide), pm_set_off (by decide), pm_set_off (by decide), show 0 + (i - 0) = i from by omega]
    · simp only [Nat.reduceAdd]; rw [pm_row_off (by decide), pm_row_off (by decide), pm_row_off (by decide), pm_row_at]; unfold va_cpy; rw [if_pos (by omega), pm_row_off (by decide), pm_row_off (by decide), pm_row_off (by decide), pm_row_off (by decide), pm_row_off (by decide), pm_row_off (by decide), pm_row_off (by decide), pm_row_off (by decide), pm_set_off (by decide), pm_set_off (by decide), show 0 + (i - 0) = i from by omega]
    · simp only [Nat.reduceAdd]; rw [pm_row_off (by decide), pm_row_off (by decide), pm_row_at]; unfold va_cpy; rw [if_pos (by omega), pm_row_off (by decide), pm_row_off (by decide), pm_row_off (by decide), pm_row_off (by decide), pm_row_off (by decide), pm_row_off (by decide), pm_row_off (by decide), pm_row_off (by decide), pm_row_off (by decide), pm_set_off (by decide), pm_set_off (by decide), show 0 + (i - 0) = i from by omega]
    · simp only [Nat.reduceAdd]; rw [pm_row_off (by decide), pm_row_at]; unfold va_cpy; rw [if_pos (by omega), pm_row_off (by decide), pm_row_off (by decide), pm_row_off (by decide), pm_row_off (by decide), pm_row_off (by decide), pm_row_off (by decide), pm_row_off (by decide), pm_row_off (by decide), pm_row_off (by decide), pm_row_off (by decide), pm_set_off (by decide), pm_set_off (by decide), show 0 + (i - 0) = i from by omega]
    · simp only [Nat.reduceAdd]; rw [pm_row_at]; unfold va_cpy; rw [if_pos (by omega), pm_row_off (by decide), pm_row_off (by decide), pm_row_off (by decide), pm_row_off (by decide), pm_row_off (by decide), pm_row_off (by decide), pm_row_off (by decide), pm_row_off (by decide), pm_row_off (by decide), pm_row_off (by decide), pm_row_off (by decide), pm_set_off (by decide), pm_set_off (by decide), show 0 + (i - 0) = i from by omega])
set_option maxHeartbeats 4000000 in
set_option maxRecDepth 100000 in
theorem c_X5_copyFrom_174_1 {g : Nat → Int32} (μ : pm_Mm) (hR : lr_Rel μ.1 1 g) (hB : lr_B g) : pm_CT mi_X5_copyFrom [.ref 174, .ref 1] μ (fun v μ2 => v = none ∧ μ2.2 = μ.2 ∧ (∀ i, (i < 174 ∨ 212 < i) → μ2.1 i = μ.1 i) ∧ lr_Rel μ2.1 174 g) pm_NX := by
  refine pm_CT_of (lo := [some (.ref 174), some (.ref 1)]) (by decide +kernel) rfl rfl (by intro v hv; simp at hv; rcases hv with rfl | rfl <;> rfl) (Nat.le_of_ble_eq_true rfl) rfl ?_
  obtain ⟨hm1, hm3, hm2, hm4, hm5, hm6⟩ := id hB
  refine pm_bl [(.aload_n 0, 1, 0, 0, 0), (.getfield 12, 3, 5, 0, 0), (.aload_n 1, 1, 1, 0, 0), (.getfield 12, 3, 5, 0, 0)] (pc1 := 8) (lo1 := [some (.ref 174), some (.ref 1)]) (st1 := [.ref 2, .ref 175]) (μ1 := μ) (vc := True) rfl (by decide +kernel) rfl trivial ?_
  refine pm_callV2 mi_X3_copyFrom (ix := 61) (b := 175) (ci := 3) (kc2 := 0) (ks2 := 0) (As := [.ref 2]) (rest := []) (c_X3_copyFrom_174_1 μ hR.2.1 hm1) cal_X3_copyFrom lk5_61 (by decide +kernel) rfl (by decide +kernel) rfl rfl rfl rfl (Nat.le_of_ble_eq_true rfl) (by decide) (by decide) (fun _ _ h9 => h9.elim) ?_
  rintro _ μ1 ⟨rfl, x1, f1, r1⟩
  show pm_V _ _ _ _ 11 _ [] _
  refine pm_bl [(.aload_n 0, 1, 0, 0, 0), (.getfield 21, 3, 5, 1, 0), (.aload_n 1, 1, 1, 0, 0), (.getfield 21, 3, 5, 1, 0)] (pc1 := 19) (lo1 := [some (.ref 174), some (.ref 1)]) (st1 := [.ref 5, .ref 178]) (μ1 := μ1) (vc := True) rfl (by decide +kernel) rfl trivial ?_
  refine pm_callV2 mi_X6_copyFrom (ix := 65) (b := 178) (ci := 6) (kc2 := 0) (ks2 := 0) (As := [.ref 5]) (rest := []) (c_X6_copyFrom_174_1 μ1 (lr_Rp.st (b := 1) hR.2.2.1 hm3 (fun k h1 h2 => by rw [f1 _ (by omega)]) (fun _ _ _ => rfl)) hm3) cal_X6_copyFrom lk5_65 (by decide +kernel) rfl (by decide +kernel) rfl rfl rfl rfl (Nat.le_of_ble_eq_true rfl) (by decide) (by decide) (fun _ _ h9 => h9.elim) ?_
  rintro _ μ2 ⟨rfl, x2, f2, r2⟩
  show pm_V _ _ _ _ 22 _ [] _
  refine pm_bl [(.aload_n 0, 1, 0, 0, 0), (.getfield 28, 3, 5, 2, 0), (.aload_n 1, 1, 1, 0, 0), (.getfield 28, 3, 5, 2, 0)] (pc1 := 30) (lo1 := [some (.ref 174), some (.ref 1)]) (st1 := [.ref 10, .ref 183]) (μ1 := μ2) (vc := True) rfl (by decide +kernel) rfl trivial ?_
  refine pm_callV2 mi_X8_copyFrom (ix := 68) (b := 183) (ci := 8) (kc2 := 0) (ks2 := 0) (As := [.ref 10]) (rest := []) (c_X8_copyFrom_174_1 μ2 (lr_Rw.st (b := 1) hR.2.2.2.1 hm2 (fun k h1 h2 => by rw [f2 _ (by omega), f1 _ (by omega)]) (fun _ _ _ => rfl)) hm2) cal_X8_copyFrom lk5_68 (by decide +kernel) rfl (by decide +kernel) rfl rfl rfl rfl (Nat.le_of_ble_eq_true rfl) (by decide) (by decide) (fun _ _ h9 => h9.elim) ?_
  rintro _ μ3 ⟨rfl, x3, f3, r3⟩
  show pm_V _ _ _ _ 33 _ [] _
  refine pm_bl [(.aload_n 0, 1, 0, 0, 0), (.getfield 35, 3, 5, 3, 0), (.aload_n 1, 1, 1, 0, 0), (.getfield 35, 3, 5, 3, 0)] (pc1 := 41) (lo1 := [some (.ref 174), some (.ref 1)]) (st1 := [.ref 16, .ref 189]) (μ1 := μ3) (vc := True) rfl (by decide +kernel) rfl trivial ?_
  refine pm_callV2 mi_X7_copyFrom (ix := 71) (b := 189) (ci := 7) (kc2 := 0) (ks2 := 0) (As := [.ref 16]) (rest := []) (c_X7_copyFrom_174_1 μ3 (lr_Rr.st (b := 1) hR.2.2.2.2.1 hm4 (fun k h1 h2 => by rw [f3 _ (by omega), f2 _ (by omega), f1 _ (by omega)]) (fun _ _ _ => rfl)) hm4) cal_X7_copyFrom lk5_71 (by decide +kernel) rfl (by decide +kernel) rfl rfl rfl rfl (Nat.le_of_ble_eq_true rfl) (by decide) (by decide) (fun _ _ h9 => h9.elim) ?_
  rintro _ μ4 ⟨rfl, x4, f4, r4⟩
  show pm_V _ _ _ _ 44 _ [] _
  refine pm_bl [(.aload_n 0, 1, 0, 0, 0), (.getfield 42, 3, 5, 4, 0), (.aload_n 1, 1, 1, 0, 0), (.getfield 42, 3, 5, 4, 0)] (pc1 := 52) (lo1 := [some (.ref 174), some (.ref 1)]) (st1 := [.ref 22, .ref 195]) (μ1 := μ4) (vc := True) rfl (by decide +kernel) rfl trivial ?_
  refine pm_callV2 mi_X0_copyFrom (ix := 74) (b := 195) (ci := 0) (kc2 := 0) (ks2 := 0) (As := [.ref 22]) (rest := []) (c_X0_copyFrom_174_1 μ4 (lr_Ra.st (b := 1) hR.2.2.2.2.2.1 hm5 (fun k h1 h2 => by rw [f4 _ (by omega), f3 _ (by omega), f2 _ (by omega), f1 _ (by omega)]) (fun _ _ _ => rfl)) hm5) cal_X0_copyFrom lk5_74 (by decide +kernel) rfl (by decide +kernel) rfl rfl rfl rfl (Nat.le_of_ble_eq_true rfl) (by decide) (by decide) (fun _ _ h9 => h9.elim) ?_
  rintro _ μ5 ⟨rfl, x5, f5, r5⟩
  show pm_V _ _ _ _ 55 _ [] _
  refine pm_bl [(.aload_n 0, 1, 0, 0, 0), (.getfield 49, 3, 5, 5, 0), (.aload_n 1, 1, 1, 0, 0), (.getfield 49, 3, 5, 5, 0)] (pc1 := 63) (lo1 := [some (.ref 174), some (.ref 1)]) (st1 := [.ref 26, .ref 199]) (μ1 := μ5) (vc := True) rfl (by decide +kernel) rfl trivial ?_
  refine pm_callV2 mi_X4_copyFrom (ix := 77) (b := 199) (ci := 4) (kc2 := 0) (ks2 := 0) (As := [.ref 26]) (rest := []) (c_X4_copyFrom_174_1 μ5 (lr_Rl.st (b := 1) hR.2.2.2.2.2.2 hm6 (fun k h1 h2 => by rw [f5 _ (by omega), f4 _ (by omega), f3 _ (by omega), f2 _ (by omega), f1 _ (by omega)]) rfl (fun _ _ _ => rfl)) hm6) cal_X4_copyFrom lk5_77 (by decide +kernel) rfl (by decide +kernel) rfl rfl rfl rfl (Nat.le_of_ble_eq_true rfl) (by decide) (by decide) (fun _ _ h9 => h9.elim) ?_
  rintro _ μ6 ⟨rfl, x6, f6, r6⟩
  show pm_V _ _ _ _ 66 _ [] _
  refine pm_bl [(.aload_n 0, 1, 0, 0, 0), (.aload_n 1, 1, 1, 0, 0), (.getfield 53, 3, 5, 6, 0), (.putfield 53, 3, 5, 6, 0)] (pc1 := 74) (lo1 := [some (.ref 174), some (.ref 1)]) (st1 := []) (μ1 := pm_set μ6 174 6 (μ6.1 1 6)) (vc := True) rfl (by decide +kernel) rfl trivial ?_
  exact pm_vret rfl (by decide) (by decide) (by decide +kernel) (⟨rfl, (x6.trans (x5.trans (x4.trans (x3.trans (x2.trans x1))))), fun i hi => by rw [pm_set_off (by omega), f6 _ (by omega), f5 _ (by omega), f4 _ (by omega), f3 _ (by omega), f2 _ (by omega), f1 _ (by omega)], by rw [pm_set_hit, f6 _ (by omega), f5 _ (by omega), f4 _ (by omega), f3 _ (by omega), f2 _ (by omega), f1 _ (by omega)]; exact hR.1, lr_Rh.st (b := 174) r1 hm1 (fun k h1 h2 => by rw [pm_set_off (by omega), f6 _ (by omega), f5 _ (by omega), f4 _ (by omega), f3 _ (by omega), f2 _ (by omega)]) (fun _ _ _ => rfl), lr_Rp.st (b := 174) r2 hm3 (fun k h1 h2 => by rw [pm_set_off (by omega), f6 _ (by omega), f5 _ (by omega), f4 _ (by omega), f3 _ (by omega)]) (fun _ _ _ => rfl), lr_Rw.st (b := 174) r3 hm2 (fun k h1 h2 => by rw [pm_set_off (by omega), f6 _ (by omega), f5 _ (by omega), f4 _ (by omega)]) (fun _ _ _ => rfl), lr_Rr.st (b := 174) r4 hm4 (fun k h1 h2 => by rw [pm_set_off (by omega), f6 _ (by omega), f5 _ (by omega)]) (fun _ _ _ => rfl), lr_Ra.st (b := 174) r5 hm5 (fun k h1 h2 => by rw [pm_set_off (by omega), f6 _ (by omega)]) (fun _ _ _ => rfl), lr_Rl.st (b := 174) r6 hm6 (fun k h1 h2 => by rw [pm_set_off (by omega)]) rfl (fun _ _ _ => rfl)⟩)
set_option maxHeartbeats 4000000 in
set_option maxRecDepth 100000 in
theorem c_X3_copyFrom_213_1 {g : Nat → Int32} (μ : pm_Mm) (hX : lr_Rh μ.1 1 g) (hn : lr_n g 2 ≤ 16) : pm_CT mi_X3_copyFrom [.ref 214, .ref 2] μ (fun v μ2 => v = none ∧ μ2.2 = μ.2 ∧ (∀ i, (i < 214 ∨ 216 < i) → μ2.1 i = μ.1 i) ∧ lr_Rh μ2.1 213 g) pm_NX := by
  refine pm_CT_of (lo := [some (.ref 214), some (.ref 2)]) (by decide +kernel) rfl rfl (by intro v hv; simp at hv; rcases hv with rfl | rfl <;> rfl) (Nat.le_of_ble_eq_true rfl) rfl ?_
  refine pm_bl [(.aload_n 0, 1, 0, 0, 0), (.aload_n 1, 1, 1, 0, 0), (.getfield 9, 3, 3, 0, 0), (.putfield 9, 3, 3, 0, 0), (.aload_n 1, 1, 1, 0, 0), (.getfield 15, 3, 3, 1, 0), (.aload_n 0, 1, 0, 0, 0), (.getfield 15, 3, 3, 1, 0)] (pc1 := 16) (lo1 := [some (.ref 214), some (.ref 2)]) (st1 := [.ref 215, .ref 3]) (μ1 := pm_set μ 214 0 (μ.1 2 0)) (vc := True) rfl (by decide +kernel) rfl trivial ?_
  refine pm_callSN2 mi_X9_copyRow (ix := 22) (host := RX9) (kc2 := 0) (ks2 := 0) (As := [.ref 3, .ref 215]) (rest := []) (c_X9_copyRow (a := 3) (b := 215) (n := 16) (pm_set μ 214 0 (μ.1 2 0)) rfl rfl (by decide)) cal_X9_copyRow (by decide +kernel) (by decide +kernel) (by decide +kernel) rfl rfl (Nat.le_of_ble_eq_true rfl) (by decide) (by decide) ?_
  rintro _ μ1 ⟨rfl, e1⟩
  show pm_V _ _ _ _ 19 _ [] _
  refine pm_bl [(.aload_n 1, 1, 1, 0, 0), (.getfield 19, 3, 3, 2, 0), (.aload_n 0, 1, 0, 0, 0), (.getfield 19, 3, 3, 2, 0)] (pc1 := 27) (lo1 := [some (.ref 214), some (.ref 2)]) (st1 := [.ref 216, .ref 4]) (μ1 := μ1) (vc := True) rfl (by decide +kernel) rfl trivial ?_
  refine pm_callSN2 mi_X9_copyRow (ix := 22) (host := RX9) (kc2 := 0) (ks2 := 0) (As := [.ref 4, .ref 216]) (rest := []) (c_X9_copyRow (a := 4) (b := 216) (n := 16) μ1 rfl rfl (by decide)) cal_X9_copyRow (by decide +kernel) (by decide +kernel) (by decide +kernel) rfl rfl (Nat.le_of_ble_eq_true rfl) (by decide) (by decide) ?_
  rintro _ μ2 ⟨rfl, e2⟩
  show pm_V _ _ _ _ 30 _ [] _
  exact pm_vret rfl (by decide) (by decide) (by decide +kernel) (by
    subst e1; subst e2
    refine ⟨rfl, rfl, fun i hi => by rw [pm_row_off (by omega), pm_row_off (by omega), pm_set_off (by omega)], lr_Rh.mv (b := 1) (b2 := 213) hX hn (by simp only [Nat.reduceAdd]; rw [pm_row_off (by decide), pm_row_off (by decide), pm_set_hit]) (fun k i h1 h2 h3 => ?_) (fun _ _ _ => rfl)⟩
    rcases (show k = 2 ∨ k = 3 by omega) with rfl | rfl
    · simp only [Nat.reduceAdd]; rw [pm_row_off (by decide), pm_row_at]; unfold va_cpy; rw [if_pos (by omega), pm_set_off (by decide), show 0 + (i - 0) = i from by omega]
    · simp only [Nat.reduceAdd]; rw [pm_row_at]; unfold va_cpy; rw [if_pos (by omega), pm_row_off (by decide), pm_set_off (by decide), show 0 + (i - 0) = i from by omega])
set_option maxHeartbeats 4000000 in
set_option maxRecDepth 100000 in
theorem c_X6_copyFrom_213_1 {g : Nat → Int32} (μ : pm_Mm) (hX : lr_Rp μ.1 1 g) (hn : lr_n g 35 ≤ 20) : pm_CT mi_X6_copyFrom [.ref 217, .ref 5] μ (fun v μ2 => v = none ∧ μ2.2 = μ.2 ∧ (∀ i, (i < 217 ∨ 221 < i) → μ2.1 i = μ.1 i) ∧ lr_Rp μ2.1 213 g) pm_NX := by
  refine pm_CT_of (lo := [some (.ref 217), some (.ref 5)]) (by decide +kernel) rfl rfl (by intro v hv; simp at hv; rcases hv with rfl | rfl <;> rfl) (Nat.le_of_ble_eq_true rfl) rfl ?_
  refine pm_bl [(.aload_n 0, 1, 0, 0, 0), (.aload_n 1, 1, 1, 0, 0), (.getfield 9, 3, 6, 0, 0), (.putfield 9, 3, 6, 0, 0), (.aload_n 1, 1, 1, 0, 0), (.getfield 15, 3, 6, 1, 0), (.aload_n 0, 1, 0, 0, 0), (.getfield 15, 3, 6, 1, 0)] (pc1 := 16) (lo1 := [some (.ref 217), some (.ref 5)]) (st1 := [.ref 218, .ref 6]) (μ1 := pm_set μ 217 0 (μ.1 5 0)) (vc := True) rfl (by decide +kernel) rfl trivial ?_
  refine pm_callSN2 mi_X9_copyRow (ix := 28) (host := RX9) (kc2 := 0) (ks2 := 0) (As := [.ref 6, .ref 218]) (rest := []) (c_X9_copyRow (a := 6) (b := 218) (n := 20) (pm_set μ 217 0 (μ.1 5 0)) rfl rfl (by decide)) cal_X9_copyRow (by decide +kernel) (by decide +kernel) (by decide +kernel) rfl rfl (Nat.le_of_ble_eq_true rfl) (by decide) (by decide) ?_
  rintro _ μ1 ⟨rfl, e1⟩
  show pm_V _ _ _ _ 19 _ [] _
  refine pm_bl [(.aload_n 1, 1, 1, 0, 0), (.getfield 19, 3, 6, 2, 0), (.aload_n 0, 1, 0, 0, 0), (.getfield 19, 3, 6, 2, 0)] (pc1 := 27) (lo1 := [some (.ref 217), some (.ref 5)]) (st1 := [.ref 219, .ref 7]) (μ1 := μ1) (vc := True) rfl (by decide +kernel) rfl trivial ?_
  refine pm_callSN2 mi_X9_copyRow (ix := 28) (host := RX9) (kc2 := 0) (ks2 := 0) (As := [.ref 7, .ref 219]) (rest := []) (c_X9_copyRow (a := 7) (b := 219) (n := 20) μ1 rfl rfl (by decide)) cal_X9_copyRow (by decide +kernel) (by decide +kernel) (by decide +kernel) rfl rfl (Nat.le_of_ble_eq_true rfl) (by decide) (by decide) ?_
  rintro _ μ2 ⟨rfl, e2⟩
  show pm_V _ _ _ _ 30 _ [] _
  refine pm_bl [(.aload_n 1, 1, 1, 0, 0), (.getfield 22, 3, 6, 3, 0), (.aload_n 0, 1, 0, 0, 0), (.getfield 22, 3, 6, 3, 0)] (pc1 := 38) (lo1 := [some (.ref 217), some (.ref 5)]) (st1 := [.ref 220, .ref 8]) (μ1 := μ2) (vc := True) rfl (by decide +kernel) rfl trivial ?_
  refine pm_callSN2 mi_X9_copyRow (ix := 28) (host := RX9) (kc2 := 0) (ks2 := 0) (As := [.ref 8, .ref 220]) (rest := []) (c_X9_copyRow (a := 8) (b := 220) (n := 20) μ2 rfl rfl (by decide)) cal_X9_copyRow (by decide +kernel) (by decide +kernel) (by decide +kernel) rfl rfl (Nat.le_of_ble_eq_true rfl) (by decide) (by decide) ?_
  rintro _ μ3 ⟨rfl, e3⟩
  show pm_V _ _ _ _ 41 _ [] _
  refine pm_bl [(.aload_n 1, 1, 1, 0, 0), (.getfield 25, 3, 6, 4, 0), (.aload_n 0, 1, 0, 0, 0), (.getfield 25, 3, 6, 4, 0)] (pc1 := 49) (lo1 := [some (.ref 217), some (.ref 5)]) (st1 := [.ref 221, .ref 9]) (μ1 := μ3) (vc := True) rfl (by decide +kernel) rfl trivial ?_
  refine pm_callSN2 mi_X9_copyRow (ix := 28) (host := RX9) (kc2 := 0) (ks2 := 0) (As := [.ref 9, .ref 221]) (rest := []) (c_X9_copyRow (a := 9) (b := 221) (n := 20) μ3 rfl rfl (by decide)) cal_X9_copyRow (by decide +kernel) (by decide +kernel) (by decide +kernel) rfl rfl (Nat.le_of_ble_eq_true rfl) (by decide) (by decide) ?_
  rintro _ μ4 ⟨rfl, e4⟩
  show pm_V _ _ _ _ 52 _ [] _
  exact pm_vret rfl (by decide) (by decide) (by decide +kernel) (by
    subst e1; subst e2; subst e3; subst e4
    refine ⟨rfl, rfl, fun i hi => by rw [pm_row_off (by omega), pm_row_off (by omega), pm_row_off (by omega), pm_row_off (by omega), pm_set_off (by omega)], lr_Rp.mv (b := 1) (b2 := 213) hX hn (by simp only [Nat.reduceAdd]; rw [pm_row_off (by decide), pm_row_off (by decide), pm_row_off (by decide), pm_row_off (by decide), pm_set_hit]) (fun k i h1 h2 h3 => ?_) (fun _ _ _ => rfl)⟩
    rcases (show k = 5 ∨ k = 6 ∨ k = 7 ∨ k = 8 by omega) with rfl | rfl | rfl | rfl
    · simp only [Nat.reduceAdd]; rw [pm_row_off (by decide), pm_row_off (by decide), pm_row_off (by decide), pm_row_at]; unfold va_cpy; rw [if_pos (by omega), pm_set_off (by decide), show 0 + (i - 0) = i from by omega]
    · simp only [Nat.reduceAdd]; rw [pm_row_off (by decide), pm_row_off (by decide), pm_row_at]; unfold va_cpy; rw [if_pos (by omega), pm_row_off (by decide), pm_set_off (by decide), show 0 + (i - 0) = i from by omega]
    · simp only [Nat.reduceAdd]; rw [pm_row_off (by decide), pm_row_at]; unfold va_cpy; rw [if_pos (by omega), pm_row_off (by decide), pm_row_off (by decide), pm_set_off (by decide), show 0 + (i - 0) = i from by omega]
    · simp only [Nat.reduceAdd]; rw [pm_row_at]; unfold va_cpy; rw [if_pos (by omega), pm_row_off (by decide), pm_row_off (by decide), pm_row_off (by decide), pm_set_off (by decide), show 0 + (i - 0) = i from by omega])
set_option maxHeartbeats 4000000 in
set_option maxRecDepth 100000 in
theorem c_X8_copyFrom_213_1 {g : Nat → Int32} (μ : pm_Mm) (hX : lr_Rw μ.1 1 g) (hn : lr_n g 116 ≤ 10) : pm_CT mi_X8_copyFrom [.ref 222, .ref 10] μ (fun v μ2 => v = none ∧ μ2.2 = μ.2 ∧ (∀ i, (i < 222 ∨ 227 < i) → μ2.1 i = μ.1 i) ∧ lr_Rw μ2.1 213 g) pm_NX := by
  refine pm_CT_of (lo := [some (.ref 222), some (.ref 10)]) (by decide +kernel) rfl rfl (by intro v hv; simp at hv; rcases hv with rfl | rfl <;> rfl) (Nat.le_of_ble_eq_true rfl) rfl ?_
  refine pm_bl [(.aload_n 0, 1, 0, 0, 0), (.aload_n 1, 1, 1, 0, 0), (.getfield 9, 3, 8, 0, 0), (.putfield 9, 3, 8, 0, 0), (.aload_n 1, 1, 1, 0, 0), (.getfield 15, 3, 8, 1, 0), (.aload_n 0, 1, 0, 0, 0), (.getfield 15, 3, 8, 1, 0)] (pc1 := 16) (lo1 := [some (.ref 222), some (.ref 10)]) (st1 := [.ref 223, .ref 11]) (μ1 := pm_set μ 222 0 (μ.1 10 0)) (vc := True) rfl (by decide +kernel) rfl trivial ?_
  refine pm_callSN2 mi_X9_copyRow (ix := 31) (host := RX9) (kc2 := 0) (ks2 := 0) (As := [.ref 11, .ref 223]) (rest := []) (c_X9_copyRow (a := 11) (b := 223) (n := 10) (pm_set μ 222 0 (μ.1 10 0)) rfl rfl (by decide)) cal_X9_copyRow (by decide +kernel) (by decide +kernel) (by decide +kernel) rfl rfl (Nat.le_of_ble_eq_true rfl) (by decide) (by decide) ?_
  rintro _ μ1 ⟨rfl, e1⟩
  show pm_V _ _ _ _ 19 _ [] _
  refine pm_bl [(.aload_n 1, 1, 1, 0, 0), (.getfield 19, 3, 8, 2, 0), (.aload_n 0, 1, 0, 0, 0), (.getfield 19, 3, 8, 2, 0)] (pc1 := 27) (lo1 := [some (.ref 222), some (.ref 10)]) (st1 := [.ref 224, .ref 12]) (μ1 := μ1) (vc := True) rfl (by decide +kernel) rfl trivial ?_
  refine pm_callSN2 mi_X9_copyRow (ix := 31) (host := RX9) (kc2 := 0) (ks2 := 0) (As := [.ref 12, .ref 224]) (rest := []) (c_X9_copyRow (a := 12) (b := 224) (n := 10) μ1 rfl rfl (by decide)) cal_X9_copyRow (by decide +kernel) (by decide +kernel) (by decide +kernel) rfl rfl (Nat.le_of_ble_eq_true rfl) (by decide) (by decide) ?_
  rintro _ μ2 ⟨rfl, e2⟩
  show pm_V _ _ _ _ 30 _ [] _
  refine pm_bl [(.aload_n 1, 1, 1, 0, 0), (.getfield 22, 3, 8, 3, 0), (.aload_n 0, 1, 0, 0, 0), (.getfield 22, 3, 8, 3, 0)] (pc1 := 38) (lo1 := [some (.ref 222), some (.ref 10)]) (st1 := [.ref 225, .ref 13]) (μ1 := μ2) (vc := True) rfl (by decide +kernel) rfl trivial ?_
  refine pm_callSN2 mi_X9_copyRow (ix := 31) (host := RX9) (kc2 := 0) (ks2 := 0) (As := [.ref 13, .ref 225]) (rest := []) (c_X9_copyRow (a := 13) (b := 225) (n := 10) μ2 rfl rfl (by decide)) cal_X9_copyRow (by decide +kernel) (by decide +kernel) (by decide +kernel) rfl rfl (Nat.le_of_ble_eq_true rfl) (by decide) (by decide) ?_
  rintro _ μ3 ⟨rfl, e3⟩
  show pm_V _ _ _ _ 41 _ [] _
  refine pm_bl [(.aload_n 1, 1, 1, 0, 0), (.getfield 25, 3, 8, 4, 0), (.aload_n 0, 1, 0, 0, 0), (.getfield 25, 3, 8, 4, 0)] (pc1 := 49) (lo1 := [some (.ref 222), some (.ref 10)]) (st1 := [.ref 226, .ref 14]) (μ1 := μ3) (vc := True) rfl (by decide +kernel) rfl trivial ?_
  refine pm_callSN2 mi_X9_copyRow (ix := 31) (host := RX9) (kc2 := 0) (ks2 := 0) (As := [.ref 14, .ref 226]) (rest := []) (c_X9_copyRow (a := 14) (b := 226) (n := 10) μ3 rfl rfl (by decide)) cal_X9_copyRow (by decide +kernel) (by decide +kernel) (by decide +kernel) rfl rfl (Nat.le_of_ble_eq_true rfl) (by decide) (by decide) ?_
  rintro _ μ4 ⟨rfl, e4⟩
  show pm_V _ _ _ _ 52 _ [] _
  refine pm_bl [(.aload_n 1, 1, 1, 0, 0), (.getfield 28, 3, 8, 5, 0), (.aload_n 0, 1, 0, 0, 0), (.getfield 28, 3, 8, 5, 0)] (pc1 := 60) (lo1 := [some (.ref 222), some (.ref 10)]) (st1 := [.ref 227, .ref 15]) (μ1 := μ4) (vc := True) rfl (by decide +kernel) rfl trivial ?_
  refine pm_callSN2 mi_X9_copyRow (ix := 31) (host := RX9) (kc2 := 0) (ks2 := 0) (As := [.ref 15, .ref 227]) (rest := []) (c_X9_copyRow (a := 15) (b := 227) (n := 10) μ4 rfl rfl (by decide)) cal_X9_copyRow (by decide +kernel) (by decide +kernel) (by decide +kernel) rfl rfl (Nat.le_of_ble_eq_true rfl) (by decide) (by decide) ?_
  rintro _ μ5 ⟨rfl, e5⟩
  show pm_V _ _ _ _ 63 _ [] _
  exact pm_vret rfl (by decide) (by decide) (by decide +kernel) (by
    subst e1; subst e2; subst e3; subst e4; subst e5
    refine ⟨rfl, rfl, fun i hi => by rw [pm_row_off (by omega), pm_row_off (by omega), pm_row_off (by omega), pm_row_off (by omega), pm_row_off (by omega), pm_set_off (by omega)], lr_Rw.mv (b := 1) (b2 := 213) hX hn (by simp only [Nat.reduceAdd]; rw [pm_row_off (by decide), pm_row_off (by decide), pm_row_off (by decide), pm_row_off (by decide), pm_row_off (by decide), pm_set_hit]) (fun k i h1 h2 h3 => ?_) (fun _ _ _ => rfl)⟩
    rcases (show k = 10 ∨ k = 11 ∨ k = 12 ∨ k = 13 ∨ k = 14 by omega) with rfl | rfl | rfl | rfl | rfl
    · simp only [Nat.reduceAdd]; rw [pm_row_off (by decide), pm_row_off (by decide), pm_row_off (by decide), pm_row_off (by decide), pm_row_at]; unfold va_cpy; rw [if_pos (by omega), pm_set_off (by decide), show 0 + (i - 0) = i from by omega]
    · simp only [Nat.reduceAdd]; rw [pm_row_off (by decide), pm_row_off (by decide), pm_row_off (by decide), pm_row_at]; unfold va_cpy; rw [if_pos (by omega), pm_row_off (by decide), pm_set_off (by decide), show 0 + (i - 0) = i from by omega]
    · simp only [Nat.reduceAdd]; rw [pm_row_off (by decide), pm_row_off (by decide), pm_row_at]; unfold va_cpy; rw [if_pos (by omega), pm_row_off (by decide), pm_row_off (by decide), pm_set_off (by decide), show 0 + (i - 0) = i from by omega]
    · simp only [Nat.reduceAdd]; rw [pm_row_off (by decide), pm_row_at]; unfold va_cpy; rw [if_pos (by omega), pm_row_off (by decide), pm_row_off (by decide), pm_row_off (by decide), pm_set_off (by decide), show 0 + (i - 0) = i from by omega]
    · simp only [Nat.reduceAdd]; rw [pm_row_at]; unfold va_cpy; rw [if_pos (by omega), pm_row_off (by decide), pm_row_off (by decide), pm_row_off (by decide), pm_row_off (by decide), pm_set_off (by decide), show 0 + (i - 0) = i from by omega])
set_option maxHeartbeats 4000000 in
set_option maxRecDepth 100000 in
theorem c_X7_copyFrom_213_1 {g : Nat → Int32} (μ : pm_Mm) (hX : lr_Rr μ.1 1 g) (hn : lr_n g 167 ≤ 12) : pm_CT mi_X7_copyFrom [.ref 228, .ref 16] μ (fun v μ2 => v = none ∧ μ2.2 = μ.2 ∧ (∀ i, (i < 228 ∨ 233 < i) → μ2.1 i = μ.1 i) ∧ lr_Rr μ2.1 213 g) pm_NX := by
  refine pm_CT_of (lo := [some (.ref 228), some (.ref 16)]) (by decide +kernel) rfl rfl (by intro v hv; simp at hv; rcases hv with rfl | rfl <;> rfl) (Nat.le_of_ble_eq_true rfl) rfl ?_
  refine pm_bl [(.aload_n 0, 1, 0, 0, 0), (.aload_n 1, 1, 1, 0, 0), (.getfield 9, 3, 7, 0, 0), (.putfield 9, 3, 7, 0, 0), (.aload_n 1, 1, 1, 0, 0), (.getfield 15, 3, 7, 1, 0), (.aload_n 0, 1, 0, 0, 0), (.getfield 15, 3, 7, 1, 0)] (pc1 := 16) (lo1 := [some (.ref 228), some (.ref 16)]) (st1 := [.ref 229, .ref 17]) (μ1 := pm_set μ 228 0 (μ.1 16 0)) (vc := True) rfl (by decide +kernel) rfl trivial ?_
  refine pm_callSN2 mi_X9_copyRow (ix := 31) (host := RX9) (kc2 := 0) (ks2 := 0) (As := [.ref 17, .ref 229]) (rest := []) (c_X9_copyRow (a := 17) (b := 229) (n := 12) (pm_set μ 228 0 (μ.1 16 0)) rfl rfl (by decide)) cal_X9_copyRow (by decide +kernel) (by decide +kernel) (by decide +kernel) rfl rfl (Nat.le_of_ble_eq_true rfl) (by decide) (by decide) ?_
  rintro _ μ1 ⟨rfl, e1⟩
  show pm_V _ _ _ _ 19 _ [] _
  refine pm_bl [(.aload_n 1, 1, 1, 0, 0), (.getfield 19, 3, 7, 2, 0), (.aload_n 0, 1, 0, 0, 0), (.getfield 19, 3, 7, 2, 0)] (pc1 := 27) (lo1 := [some (.ref 228), some (.ref 16)]) (st1 := [.ref 230, .ref 18]) (μ1 := μ1) (vc := True) rfl (by decide +kernel) rfl trivial ?_
  refine pm_callSN2 mi_X9_copyRow (ix := 31) (host := RX9) (kc2 := 0) (ks2 := 0) (As := [.ref 18, .ref 230]) (rest := []) (c_X9_copyRow (a := 18) (b := 230) (n := 12) μ1 rfl rfl (by decide)) cal_X9_copyRow (by decide +kernel) (by decide +kernel) (by decide +kernel) rfl rfl (Nat.le_of_ble_eq_true rfl) (by decide) (by decide) ?_
  rintro _ μ2 ⟨rfl, e2⟩
  show pm_V _ _ _ _ 30 _ [] _
  refine pm_bl [(.aload_n 1, 1, 1, 0, 0), (.getfield 22, 3, 7, 3, 0), (.aload_n 0, 1, 0, 0, 0), (.getfield 22, 3, 7, 3, 0)] (pc1 := 38) (lo1 := [some (.ref 228), some (.ref 16)]) (st1 := [.ref 231, .ref 19]) (μ1 := μ2) (vc := True) rfl (by decide +kernel) rfl trivial ?_
  refine pm_callSN2 mi_X9_copyRow (ix := 31) (host := RX9) (kc2 := 0) (ks2 := 0) (As := [.ref 19, .ref 231]) (rest := []) (c_X9_copyRow (a := 19) (b := 231) (n := 12) μ2 rfl rfl (by decide)) cal_X9_copyRow (by decide +kernel) (by decide +kernel) (by decide +kernel) rfl rfl (Nat.le_of_ble_eq_true rfl) (by decide) (by decide) ?_
  rintro _ μ3 ⟨rfl, e3⟩
  show pm_V _ _ _ _ 41 _ [] _
  refine pm_bl [(.aload_n 1, 1, 1, 0, 0), (.getfield 25, 3, 7, 4, 0), (.aload_n 0, 1, 0, 0, 0), (.getfield 25, 3, 7, 4, 0)] (pc1 := 49) (lo1 := [some (.ref 228), some (.ref 16)]) (st1 := [.ref 232, .ref 20]) (μ1 := μ3) (vc := True) rfl (by decide +kernel) rfl trivial ?_
  refine pm_callSN2 mi_X9_copyRow (ix := 31) (host := RX9) (kc2 := 0) (ks2 := 0) (As := [.ref 20, .ref 232]) (rest := []) (c_X9_copyRow (a := 20) (b := 232) (n := 12) μ3 rfl rfl (by decide)) cal_X9_copyRow (by decide +kernel) (by decide +kernel) (by decide +kernel) rfl rfl (Nat.le_of_ble_eq_true rfl) (by decide) (by decide) ?_
  rintro _ μ4 ⟨rfl, e4⟩
  show pm_V _ _ _ _ 52 _ [] _
  refine pm_bl [(.aload_n 1, 1, 1, 0, 0), (.getfield 28, 3, 7, 5, 0), (.aload_n 0, 1, 0, 0, 0), (.getfield 28, 3, 7, 5, 0)] (pc1 := 60) (lo1 := [some (.ref 228), some (.ref 16)]) (st1 := [.ref 233, .ref 21]) (μ1 := μ4) (vc := True) rfl (by decide +kernel) rfl trivial ?_
  refine pm_callSN2 mi_X9_copyRow (ix := 31) (host := RX9) (kc2 := 0) (ks2 := 0) (As := [.ref 21, .ref 233]) (rest := []) (c_X9_copyRow (a := 21) (b := 233) (n := 12) μ4 rfl rfl (by decide)) cal_X9_copyRow (by decide +kernel) (by decide +kernel) (by decide +kernel) rfl rfl (Nat.le_of_ble_eq_true rfl) (by decide) (by decide) ?_
  rintro _ μ5 ⟨rfl, e5⟩
  show pm_V _ _ _ _ 63 _ [] _
  exact pm_vret rfl (by decide) (by decide) (by decide +kernel) (by
    subst e1; subst e2; subst e3; subst e4; subst e5
    refine ⟨rfl, rfl, fun i hi => by rw [pm_row_off (by omega), pm_row_off (by omega), pm_row_off (by omega), pm_row_off (by omega), pm_row_off (by omega), pm_set_off (by omega)], lr_Rr.mv (b := 1) (b2 := 213) hX hn (by simp only [Nat.reduceAdd]; rw [pm_row_off (by decide), pm_row_off (by decide), pm_row_off (by decide), pm_row_off (by decide), pm_row_off (by decide), pm_set_hit]) (fun k i h1 h2 h3 => ?_) (fun _ _ _ => rfl)⟩
    rcases (show k = 16 ∨ k = 17 ∨ k = 18 ∨ k = 19 ∨ k = 20 by omega) with rfl | rfl | rfl | rfl | rfl
    · simp only [Nat.reduceAdd]; rw [pm_row_off (by decide), pm_row_off (by decide), pm_row_off (by decide), pm_row_off (by decide), pm_row_at]; unfold va_cpy; rw [if_pos (by omega), pm_set_off (by decide), show 0 + (i - 0) = i from by omega]
    · simp only [Nat.reduceAdd]; rw [pm_row_off (by decide), pm_row_off (by decide), pm_row_off (by decide), pm_row_at]; unfold va_cpy; rw [if_pos (by omega), pm_row_off (by decide), pm_set_off (by decide), show 0 + (i - 0) = i from by omega]
    · simp only [Nat.reduceAdd]; rw [pm_row_off (by decide), pm_row_off (by decide), pm_row_at]; unfold va_cpy; rw [if_pos (by omega), pm_row_off (by decide), pm_row_off (by decide), pm_set_off (by decide), show 0 + (i - 0) = i from by omega]
    · simp only [Nat.reduceAdd]; rw [pm_row_off (by decide), pm_row_at]; unfold va_cpy; rw [if_pos (by omega), pm_row_off (by decide), pm_row_off (by decide), pm_row_off (by decide), pm_set_off (by decide), show 0 + (i - 0) = i from by omega]
    · simp only [Nat.reduceAdd]; rw [pm_row_at]; unfold va_cpy; rw [if_pos (by omega), pm_row_off (by decide), pm_row_off (by decide), pm_row_off (by decide), pm_row_off (by decide), pm_set_off (by decide), show 0 + (i - 0) = i from by omega])
set_option maxHeartbeats 4000000 in
set_option maxRecDepth 100000 in
theorem c_X0_copyFrom_213_1 {g : Nat → Int32} (μ : pm_Mm) (hX : lr_Ra μ.1 1 g) (hn : lr_n g 228 ≤ 20) : pm_CT mi_X0_copyFrom [.ref 234, .ref 22] μ (fun v μ2 => v = none ∧ μ2.2 = μ.2 ∧ (∀ i, (i < 234 ∨ 237 < i) → μ2.1 i = μ.1 i) ∧ lr_Ra μ2.1 213 g) pm_NX := by
  refine pm_CT_of (lo := [some (.ref 234), some (.ref 22)]) (by decide +kernel) rfl rfl (by intro v hv; simp at hv; rcases hv with rfl | rfl <;> rfl) (Nat.le_of_ble_eq_true rfl) rfl ?_
  refine pm_bl [(.aload_n 0, 1, 0, 0, 0), (.aload_n 1, 1, 1, 0, 0), (.getfield 9, 3, 0, 0, 0), (.putfield 9, 3, 0, 0, 0), (.aload_n 1, 1, 1, 0, 0), (.getfield 15, 3, 0, 1, 0), (.aload_n 0, 1, 0, 0, 0), (.getfield 15, 3, 0, 1, 0)] (pc1 := 16) (lo1 := [some (.ref 234), some (.ref 22)]) (st1 := [.ref 235, .ref 23]) (μ1 := pm_set μ 234 0 (μ.1 22 0)) (vc := True) rfl (by decide +kernel) rfl trivial ?_
  refine pm_callSN2 mi_X9_copyRow (ix := 25) (host := RX9) (kc2 := 0) (ks2 := 0) (As := [.ref 23, .ref 235]) (rest := []) (c_X9_copyRow (a := 23) (b := 235) (n := 20) (pm_set μ 234 0 (μ.1 22 0)) rfl rfl (by decide)) cal_X9_copyRow (by decide +kernel) (by decide +kernel) (by decide +kernel) rfl rfl (Nat.le_of_ble_eq_true rfl) (by decide) (by decide) ?_
  rintro _ μ1 ⟨rfl, e1⟩
  show pm_V _ _ _ _ 19 _ [] _
  refine pm_bl [(.aload_n 1, 1, 1, 0, 0), (.getfield 19, 3, 0, 2, 0), (.aload_n 0, 1, 0, 0, 0), (.getfield 19, 3, 0, 2, 0)] (pc1 := 27) (lo1 := [some (.ref 234), some (.ref 22)]) (st1 := [.ref 236, .ref 24]) (μ1 := μ1) (vc := True) rfl (by decide +kernel) rfl trivial ?_
  refine pm_callSN2 mi_X9_copyRow (ix := 25) (host := RX9) (kc2 := 0) (ks2 := 0) (As := [.ref 24, .ref 236]) (rest := []) (c_X9_copyRow (a := 24) (b := 236) (n := 20) μ1 rfl rfl (by decide)) cal_X9_copyRow (by decide +kernel) (by decide +kernel) (by decide +kernel) rfl rfl (Nat.le_of_ble_eq_true rfl) (by decide) (by decide) ?_
  rintro _ μ2 ⟨rfl, e2⟩
  show pm_V _ _ _ _ 30 _ [] _
  refine pm_bl [(.aload_n 1, 1, 1, 0, 0), (.getfield 22, 3, 0, 3, 0), (.aload_n 0, 1, 0, 0, 0), (.getfield 22, 3, 0, 3, 0)] (pc1 := 38) (lo1 := [some (.ref 234), some (.ref 22)]) (st1 := [.ref 237, .ref 25]) (μ1 := μ2) (vc := True) rfl (by decide +kernel) rfl trivial ?_
  refine pm_callSN2 mi_X9_copyRow (ix := 25) (host := RX9) (kc2 := 0) (ks2 := 0) (As := [.ref 25, .ref 237]) (rest := []) (c_X9_copyRow (a := 25) (b := 237) (n := 20) μ2 rfl rfl (by decide)) cal_X9_copyRow (by decide +kernel) (by decide +kernel) (by decide +kernel) rfl rfl (Nat.le_of_ble_eq_true rfl) (by decide) (by decide) ?_
  rintro _ μ3 ⟨rfl, e3⟩
  show pm_V _ _ _ _ 41 _ [] _
  exact pm_vret rfl (by decide) (by decide) (by decide +kernel) (by
    subst e1; subst e2; subst e3
    refine ⟨rfl, rfl, fun i hi => by rw [pm_row_off (by omega), pm_row_off (by omega), pm_row_off (by omega), pm_set_off (by omega)], lr_Ra.mv (b := 1) (b2 := 213) hX hn (by simp only [Nat.reduceAdd]; rw [pm_row_off (by decide), pm_row_off (by decide), pm_row_off (by decide), pm_set_hit]) (fun k i h1 h2 h3 => ?_) (fun _ _ _ => rfl)⟩
    rcases (show k = 22 ∨ k = 23 ∨ k = 24 by omega) with rfl | rfl | rfl
    · simp only [Nat.reduceAdd]; rw [pm_row_off (by decide), pm_row_off (by decide), pm_row_at]; unfold va_cpy; rw [if_pos (by omega), pm_set_off (by decide), show 0 + (i - 0) = i from by omega]
    · simp only [Nat.reduceAdd]; rw [pm_row_off (by decide), pm_row_at]; unfold va_cpy; rw [if_pos (by omega), pm_row_off (by decide), pm_set_off (by decide), show 0 + (i - 0) = i from by omega]
    · simp only [Nat.reduceAdd]; rw [pm_row_at]; unfold va_cpy; rw [if_pos (by omega), pm_row_off (by decide), pm_row_off (by decide), pm_set_off (by decide), show 0 + (i - 0) = i from by omega])
set_option maxHeartbeats 4000000 in
set_option maxRecDepth 100000 in
theorem c_X4_copyFrom_213_1 {g : Nat → Int32} (μ : pm_Mm) (hX : lr_Rl μ.1 1 g) (hn : lr_n g 289 ≤ 30) : pm_CT mi_X4_copyFrom [.ref 238, .ref 26] μ (fun v μ2 => v = none ∧ μ2.2 = μ.2 ∧ (∀ i, (i < 238 ∨ 250 < i) → μ2.1 i = μ.1 i) ∧ lr_Rl μ2.1 213 g) pm_NX := by
  refine pm_CT_of (lo := [some (.ref 238), some (.ref 26)]) (by decide +kernel) rfl rfl (by intro v hv; simp at hv; rcases hv with rfl | rfl <;> rfl) (Nat.le_of_ble_eq_true rfl) rfl ?_
  refine pm_bl [(.aload_n 0, 1, 0, 0, 0), (.aload_n 1, 1, 1, 0, 0), (.getfield 9, 3, 4, 0, 0), (.putfield 9, 3, 4, 0, 0), (.aload_n 0, 1, 0, 0, 0), (.aload_n 1, 1, 1, 0, 0), (.getfield 15, 3, 4, 1, 0), (.putfield 15, 3, 4, 1, 0), (.aload_n 1, 1, 1, 0, 0), (.getfield 18, 3, 4, 2, 0), (.aload_n 0, 1, 0, 0, 0), (.getfield 18, 3, 4, 2, 0)] (pc1 := 24) (lo1 := [some (.ref 238), some (.ref 26)]) (st1 := [.ref 239, .ref 27]) (μ1 := pm_set (pm_set μ 238 0 (μ.1 26 0)) 238 1 ((pm_set μ 238 0 (μ.1 26 0)).1 26 1)) (vc := True) rfl (by decide +kernel) rfl trivial ?_
  rw [show (pm_set μ 238 0 (μ.1 26 0)).1 26 1 = μ.1 26 1 from by simp [pm_set]]
  refine pm_callSN2 mi_X9_copyRow (ix := 55) (host := RX9) (kc2 := 0) (ks2 := 0) (As := [.ref 27, .ref 239]) (rest := []) (c_X9_copyRow (a := 27) (b := 239) (n := 30) (pm_set (pm_set μ 238 0 (μ.1 26 0)) 238 1 (μ.1 26 1)) rfl rfl (by decide)) cal_X9_copyRow (by decide +kernel) (by decide +kernel) (by decide +kernel) rfl rfl (Nat.le_of_ble_eq_true rfl) (by decide) (by decide) ?_
  rintro _ μ1 ⟨rfl, e1⟩
  show pm_V _ _ _ _ 27 _ [] _
  refine pm_bl [(.aload_n 1, 1, 1, 0, 0), (.getfield 22, 3, 4, 3, 0), (.aload_n 0, 1, 0, 0, 0), (.getfield 22, 3, 4, 3, 0)] (pc1 := 35) (lo1 := [some (.ref 238), some (.ref 26)]) (st1 := [.ref 240, .ref 28]) (μ1 := μ1) (vc := True) rfl (by decide +kernel) rfl trivial ?_
  refine pm_callSN2 mi_X9_copyRow (ix := 55) (host := RX9) (kc2 := 0) (ks2 := 0) (As := [.ref 28, .ref 240]) (rest := []) (c_X9_copyRow (a := 28) (b := 240) (n := 30) μ1 rfl rfl (by decide)) cal_X9_copyRow (by decide +kernel) (by decide +kernel) (by decide +kernel) rfl rfl (Nat.le_of_ble_eq_true rfl) (by decide) (by decide) ?_
  rintro _ μ2 ⟨rfl, e2⟩
  show pm_V _ _ _ _ 38 _ [] _
  refine pm_bl [(.aload_n 1, 1, 1, 0, 0), (.getfield 25, 3, 4, 4, 0), (.aload_n 0, 1, 0, 0, 0), (.getfield 25, 3, 4, 4, 0)] (pc1 := 46) (lo1 := [some (.ref 238), some (.ref 26)]) (st1 := [.ref 241, .ref 29]) (μ1 := μ2) (vc := True) rfl (by decide +kernel) rfl trivial ?_
  refine pm_callSN2 mi_X9_copyRow (ix := 55) (host := RX9) (kc2 := 0) (ks2 := 0) (As := [.ref 29, .ref 241]) (rest := []) (c_X9_copyRow (a := 29) (b := 241) (n := 30) μ2 rfl rfl (by decide)) cal_X9_copyRow (by decide +kernel) (by decide +kernel) (by decide +kernel) rfl rfl (Nat.le_of_ble_eq_true rfl) (by decide) (by decide) ?_
  rintro _ μ3 ⟨rfl, e3⟩
  show pm_V _ _ _ _ 49 _ [] _
  refine pm_bl [(.aload_n 1, 1, 1, 0, 0), (.getfield 28, 3, 4, 5, 0), (.aload_n 0, 1, 0, 0, 0), (.getfield 28, 3, 4, 5, 0)] (pc1 := 57) (lo1 := [some (.ref 238), some (.ref 26)]) (st1 := [.ref 242, .ref 30]) (μ1 := μ3) (vc := True) rfl (by decide +kernel) rfl trivial ?_
  refine pm_callSN2 mi_X9_copyRow (ix := 55) (host := RX9) (kc2 := 0) (ks2 := 0) (As := [.ref 30, .ref 242]) (rest := []) (c_X9_copyRow (a := 30) (b := 242) (n := 30) μ3 rfl rfl (by decide)) cal_X9_copyRow (by decide +kernel) (by decide +kernel) (by decide +kernel) rfl rfl (Nat.le_of_ble_eq_true rfl) (by decide) (by decide) ?_
  rintro _ μ4 ⟨rfl, e4⟩
  show pm_V _ _ _ _ 60 _ [] _
  refine pm_bl [(.aload_n 1, 1, 1, 0, 0), (.getfield 31, 3, 4, 6, 0), (.aload_n 0, 1, 0, 0, 0), (.getfield 31, 3, 4, 6, 0)] (pc1 := 68) (lo1 := [some (.ref 238), some (.ref 26)]) (st1 := [.ref 243, .ref 31]) (μ1 := μ4) (vc := True) rfl (by decide +kernel) rfl trivial ?_
  refine pm_callSN2 mi_X9_copyRow (ix := 55) (host := RX9) (kc2 := 0) (ks2 := 0) (As := [.ref 31, .ref 243]) (rest := []) (c_X9_copyRow (a := 31) (b := 243) (n := 30) μ4 rfl rfl (by decide)) cal_X9_copyRow (by decide +kernel) (by decide +kernel) (by decide +kernel) rfl rfl (Nat.le_of_ble_eq_true rfl) (by decide) (by decide) ?_
  rintro _ μ5 ⟨rfl, e5⟩
  show pm_V _ _ _ _ 71 _ [] _
  refine pm_bl [(.aload_n 1, 1, 1, 0, 0), (.getfield 34, 3, 4, 7, 0), (.aload_n 0, 1, 0, 0, 0), (.getfield 34, 3, 4, 7, 0)] (pc1 := 79) (lo1 := [some (.ref 238), some (.ref 26)]) (st1 := [.ref 244, .ref 32]) (μ1 := μ5) (vc := True) rfl (by decide +kernel) rfl trivial ?_
  refine pm_callSN2 mi_X9_copyRow (ix := 55) (host := RX9) (kc2 := 0) (ks2 := 0) (As := [.ref 32, .ref 244]) (rest := []) (c_X9_copyRow (a := 32) (b := 244) (n := 30) μ5 rfl rfl (by decide)) cal_X9_copyRow (by decide +kernel) (by decide +kernel) (by decide +kernel) rfl rfl (Nat.le_of_ble_eq_true rfl) (by decide) (by decide) ?_
  rintro _ μ6 ⟨rfl, e6⟩
  show pm_V _ _ _ _ 82 _ [] _
  refine pm_bl [(.aload_n 1, 1, 1, 0, 0), (.getfield 37, 3, 4, 8, 0), (.aload_n 0, 1, 0, 0, 0), (.getfield 37, 3, 4, 8, 0)] (pc1 := 90) (lo1 := [some (.ref 238), some (.ref 26)]) (st1 := [.ref 245, .ref 33]) (μ1 := μ6) (vc := True) rfl (by decide +kernel) rfl trivial ?_
  refine pm_callSN2 mi_X9_copyRow (ix := 55) (host := RX9) (kc2 := 0) (ks2 := 0) (As := [.ref 33, .ref 245]) (rest := []) (c_X9_copyRow (a := 33) (b := 245) (n := 30) μ6 rfl rfl (by decide)) cal_X9_copyRow (by decide +kernel) (by decide +kernel) (by decide +kernel) rfl rfl (Nat.le_of_ble_eq_true rfl) (by decide) (by decide) ?_
  rintro _ μ7 ⟨rfl, e7⟩
  show pm_V _ _ _ _ 93 _ [] _
  refine pm_bl [(.aload_n 1, 1, 1, 0, 0), (.getfield 40, 3, 4, 9, 0), (.aload_n 0, 1, 0, 0, 0), (.getfield 40, 3, 4, 9, 0)] (pc1 := 101) (lo1 := [some (.ref 238), some (.ref 26)]) (st1 := [.ref 246, .ref 34]) (μ1 := μ7) (vc := True) rfl (by decide +kernel) rfl trivial ?_
  refine pm_callSN2 mi_X9_copyRow (ix := 55) (host := RX9) (kc2 := 0) (ks2 := 0) (As := [.ref 34, .ref 246]) (rest := []) (c_X9_copyRow (a := 34) (b := 246) (n := 30) μ7 rfl rfl (by decide)) cal_X9_copyRow (by decide +kernel) (by decide +kernel) (by decide +kernel) rfl rfl (Nat.le_of_ble_eq_true rfl) (by decide) (by decide) ?_
  rintro _ μ8 ⟨rfl, e8⟩
  show pm_V _ _ _ _ 104 _ [] _
  refine pm_bl [(.aload_n 1, 1, 1, 0, 0), (.getfield 43, 3, 4, 10, 0), (.aload_n 0, 1, 0, 0, 0), (.getfield 43, 3, 4, 10, 0)] (pc1 := 112) (lo1 := [some (.ref 238), some (.ref 26)]) (st1 := [.ref 247, .ref 35]) (μ1 := μ8) (vc := True) rfl (by decide +kernel) rfl trivial ?_
  refine pm_callSN2 mi_X9_copyRow (ix := 55) (host := RX9) (kc2 := 0) (ks2 := 0) (As := [.ref 35, .ref 247]) (rest := []) (c_X9_copyRow (a := 35) (b := 247) (n := 30) μ8 rfl rfl (by decide)) cal_X9_copyRow (by decide +kernel) (by decide +kernel) (by decide +kernel) rfl rfl (Nat.le_of_ble_eq_true rfl) (by decide) (by decide) ?_
  rintro _ μ9 ⟨rfl, e9⟩
  show pm_V _ _ _ _ 115 _ [] _
  refine pm_bl [(.aload_n 1, 1, 1, 0, 0), (.getfield 46, 3, 4, 11, 0), (.aload_n 0, 1, 0, 0, 0), (.getfield 46, 3, 4, 11, 0)] (pc1 := 123) (lo1 := [some (.ref 238), some (.ref 26)]) (st1 := [.ref 248, .ref 36]) (μ1 := μ9) (vc := True) rfl (by decide +kernel) rfl trivial ?_
  refine pm_callSN2 mi_X9_copyRow (ix := 55) (host := RX9) (kc2 := 0) (ks2 := 0) (As := [.ref 36, .ref 248]) (rest := []) (c_X9_copyRow (a := 36) (b := 248) (n := 30) μ9 rfl rfl (by decide)) cal_X9_copyRow (by decide +kernel) (by decide +kernel) (by decide +kernel) rfl rfl (Nat.le_of_ble_eq_true rfl) (by decide) (by decide) ?_
  rintro _ μ10 ⟨rfl, e10⟩
  show pm_V _ _ _ _ 126 _ [] _
  refine pm_bl [(.aload_n 1, 1, 1, 0, 0), (.getfield 49, 3, 4, 12, 0), (.aload_n 0, 1, 0, 0, 0), (.getfield 49, 3, 4, 12, 0)] (pc1 := 134) (lo1 := [some (.ref 238), some (.ref 26)]) (st1 := [.ref 249, .ref 37]) (μ1 := μ10) (vc := True) rfl (by decide +kernel) rfl trivial ?_
  refine pm_callSN2 mi_X9_copyRow (ix := 55) (host := RX9) (kc2 := 0) (ks2 := 0) (As := [.ref 37, .ref 249]) (rest := []) (c_X9_copyRow (a := 37) (b := 249) (n := 30) μ10 rfl rfl (by decide)) cal_X9_copyRow (by decide +kernel) (by decide +kernel) (by decide +kernel) rfl rfl (Nat.le_of_ble_eq_true rfl) (by decide) (by decide) ?_
  rintro _ μ11 ⟨rfl, e11⟩
  show pm_V _ _ _ _ 137 _ [] _
  refine pm_bl [(.aload_n 1, 1, 1, 0, 0), (.getfield 52, 3, 4, 13, 0), (.aload_n 0, 1, 0, 0, 0), (.getfield 52, 3, 4, 13, 0)] (pc1 := 145) (lo1 := [some (.ref 238), some (.ref 26)]) (st1 := [.ref 250, .ref 38]) (μ1 := μ11) (vc := True) rfl (by decide +kernel) rfl trivial ?_
  refine pm_callSN2 mi_X9_copyRow (ix := 55) (host := RX9) (kc2 := 0) (ks2 := 0) (As := [.ref 38, .ref 250]) (rest := []) (c_X9_copyRow (a := 38) (b := 250) (n := 30) μ11 rfl rfl (by decide)) cal_X9_copyRow (by decide +kernel) (by decide +kernel) (by decide +kernel) rfl rfl (Nat.le_of_ble_eq_true rfl) (by decide) (by decide) ?_
  rintro _ μ12 ⟨rfl, e12⟩
  show pm_V _ _ _ _ 148 _ [] _
  exact pm_vret rfl (by decide) (by decide) (by decide +kernel) (by
    subst e1; subst e2; subst e3; subst e4; subst e5; subst e6; subst e7; subst e8; subst e9; subst e10; subst e11; subst e12
    refine ⟨rfl, rfl, fun i hi => by rw [pm_row_off (by omega), pm_row_off (by omega), pm_row_off (by omega), pm_row_off (by omega), pm_row_off (by omega), pm_row_off (by omega), pm_row_off (by omega), pm_row_off (by omega), pm_row_off (by omega), pm_row_off (by omega), pm_row_off (by omega), pm_row_off (by omega), pm_set_off (by omega), pm_set_off (by omega)], lr_Rl.mv (b := 1) (b2 := 213) hX hn (by simp only [Nat.reduceAdd]; rw [pm_row_off (by decide), pm_row_off (by decide), pm_row_off (by decide), pm_row_off (by decide), pm_row_off (by decide), pm_row_off (by decide), pm_row_off (by decide), pm_row_off (by decide), pm_row_off (by decide), pm_row_off (by decide), pm_row_off (by decide), pm_row_off (by decide), pm_set_miss (Or.inr (by decide)), pm_set_hit]) (by simp only [Nat.reduceAdd]; rw [pm_row_off (by decide), pm_row_off (by decide), pm_row_off (by decide), pm_row_off (by decide), pm_row_off (by decide), pm_row_off (by decide), pm_row_off (by decide), pm_row_off (by decide), pm_row_off (by decide), pm_row_off (by decide), pm_row_off (by decide), pm_row_off (by decide), pm_set_hit]) (fun k i h1 h2 h3 => ?_) (fun _ _ _ => rfl) rfl⟩
    rcases (show k = 26 ∨ k = 27 ∨ k = 28 ∨ k = 29 ∨ k = 30 ∨ k = 31 ∨ k = 32 ∨ k = 33 ∨ k = 34 ∨ k = 35 ∨ k = 36 ∨ k = 37 by omega) with rfl | rfl | rfl | rfl | rfl | rfl | rfl | rfl | rfl | rfl | rfl | rfl
    · simp only [Nat.reduceAdd]; rw [pm_row_off (by decide), pm_row_off (by decide), pm_row_off (by decide), pm_row_off (by decide), pm_row_off (by decide), pm_row_off (by decide), pm_row_off (by decide), pm_row_off (by decide), pm_row_off (by decide), pm_row_off (by decide), pm_row_off (by decide), pm_row_at]; unfold va_cpy; rw [if_pos (by omega), pm_set_off (by decide), pm_set_off (by decide), show 0 + (i - 0) = i from by omega]
    · simp only [Nat.reduceAdd]; rw [pm_row_off (by decide), pm_row_off (by decide), pm_row_off (by decide), pm_row_off (by decide), pm_row_off (by decide), pm_row_off (by decide), pm_row_off (by decide), pm_row_off (by decide), pm_row_off (by decide), pm_row_off (by decide), pm_row_at]; unfold va_cpy; rw [if_pos (by omega), pm_row_off (by decide), pm_set_off (by decide), pm_set_off (by decide), show 0 + (i - 0) = i from by omega]
    · simp only [Nat.reduceAdd]; rw [pm_row_off (by decide), pm_row_off (by decide), pm_row_off (by decide), pm_row_off (by decide), pm_row_off (by decide), pm_row_off (by decide), pm_row_off (by decide), pm_row_off (by decide), pm_row_off (by decide), pm_row_at]; unfold va_cpy; rw [if_pos (by omega), pm_row_off (by decide), pm_row_off (by decide), pm_set_off (by decide), pm_set_off (by decide), show 0 + (i - 0) = i from by omega]
    · simp only [Nat.reduceAdd]; rw [pm_row_off (by decide), pm_row_off (by decide), pm_row_off (by decide), pm_row_off (by decide), pm_row_off (by decide), pm_row_off (by decide), pm_row_off (by decide), pm_row_off (by decide), pm_row_at]; unfold va_cpy; rw [if_pos (by omega), pm_row_off (by decide), pm_row_off (by decide), pm_row_off (by decide), pm_set_off (by decide), pm_set_off (by decide), show 0 + (i - 0) = i from by omega]
    · simp only [Nat.reduceAdd]; rw [pm_row_off (by decide), pm_row_off (by decide), pm_row_off (by decide), pm_row_off (by decide), pm_row_off (by decide), pm_row_off (by decide), pm_row_off (by decide), pm_row_at]; unfold va_cpy; rw [if_pos (by omega), pm_row_off (by decide), pm_row_off (by decide), pm_row_off (by decide), pm_row_off (by decide), pm_set_off (by decide), pm_set_off (by decide), show 0 + (i - 0) = i from by omega]
    · simp only [Nat.reduceAdd]; rw [pm_row_off (by decide), pm_row_off (by decide), pm_row_off (by decide), pm_row_off (by decide), pm_row_off (by decide), pm_row_off (by decide), pm_row_at]; unfold va_cpy; rw [if_pos (by omega), pm_row_off (by decide), pm_row_off (by decide), pm_row_off (by decide), pm_row_off (by decide), pm_row_off (by decide), pm_set_off (by decide), pm_set_off (by decide), show 0 + (i - 0) = i from by omega]
    · simp only [Nat.reduceAdd]; rw [pm_row_off (by decide), pm_row_off (by decide), pm_row_off (by decide), pm_row_off (by decide), pm_row_off (by decide), pm_row_at]; unfold va_cpy; rw [if_pos (by omega), pm_row_off (by decide), pm_row_off (by decide), pm_row_off (by decide), pm_row_off (by decide), pm_row_off (by decide), pm_row_off (by decide), pm_set_off (by decide), pm_set_off (by decide), show 0 + (i - 0) = i from by omega]
    · simp only [Nat.reduceAdd]; rw [pm_row_off (by decide), pm_row_off (by decide), pm_row_off (by decide), pm_row_off (by decide), pm_row_at]; unfold va_cpy; rw [if_pos (by omega), pm_row_off (by decide), pm_row_off (by decide), pm_row_off (by decide), pm_row_off (by decide), pm_row_off (by decide), pm_row_off (by decide), pm_row_off (by decide), pm_set_off (by decide), pm_set_off (by decide), show 0 + (i - 0) = i from by omega]
    · simp only [Nat.reduceAdd]; rw [pm_row_off (by decide), pm_row_off (by decide), pm_row_off (by decide), pm_row_at]; unfold va_cpy; rw [if_pos (by omega), pm_row_off (by decide), pm_row_off (by decide), pm_row_off (by decide), pm_row_off (by decide), pm_row_off (by decide), pm_row_off (by decide), pm_row_off (by decide), pm_row_off (by decide), pm_set_off (by decide), pm_set_off (by decide), show 0 + (i - 0) = i from by omega]
    · simp only [Nat.reduceAdd]; rw [pm_row_off (by decide), pm_row_off (by decide), pm_row_at]; unfold va_cpy; rw [if_pos (by omega), pm_row_off (by decide), pm_row_off (by decide), pm_row_off (by decide), pm_row_off (by decide), pm_row_off (by decide), pm_row_off (by decide), pm_row_off (by decide), pm_row_off (by decide), pm_row_off (by decide), pm_set_off (by decide), pm_set_off (by decide), show 0 + (i - 0) = i from by omega]
    · simp only [Nat.reduceAdd]; rw [pm_row_off (by decide), pm_row_at]; unfold va_cpy; rw [if_pos (by omega), pm_row_off (by decide), pm_row_off (by decide), pm_row_off (by decide), pm_row_off (by decide), pm_row_off (by decide), pm_row_off (by decide), pm_row_off (by decide), pm_row_off (by decide), pm_row_off (by decide), pm_row_off (by decide), pm_set_off (by decide), pm_set_off (by decide), show 0 + (i - 0) = i from by omega]
    · simp only [Nat.reduceAdd]; rw [pm_row_at]; unfold va_cpy; rw [if_pos (by omega), pm_row_off (by decide), pm_row_off (by decide), pm_row_off (by decide), pm_row_off (by decide), pm_row_off (by decide), pm_row_off (by decide), pm_row_off (by decide), pm_row_off (by decide), pm_row_off (by decide), pm_row_off (by decide), pm_row_off (by decide), pm_set_off (by decide), pm_set_off (by decide), show 0 + (i - 0) = i from by omega])
set_option maxHeartbeats 4000000 in
set_option maxRecDepth 100000 in
theorem c_X5_copyFrom_213_1 {g : Nat → Int32} (μ : pm_Mm) (hR : lr_Rel μ.1 1 g) (hB : lr_B g) : pm_CT mi_X5_copyFrom [.ref 213, .ref 1] μ (fun v μ2 => v = none ∧ μ2.2 = μ.2 ∧ (∀ i, (i < 213 ∨ 251 < i) → μ2.1 i = μ.1 i) ∧ lr_Rel μ2.1 213 g) pm_NX := by
  refine pm_CT_of (lo := [some (.ref 213), some (.ref 1)]) (by decide +kernel) rfl rfl (by intro v hv; simp at hv; rcases hv with rfl | rfl <;> rfl) (Nat.le_of_ble_eq_true rfl) rfl ?_
  obtain ⟨hm1, hm3, hm2, hm4, hm5, hm6⟩ := id hB
  refine pm_bl [(.aload_n 0, 1, 0, 0, 0), (.getfield 12, 3, 5, 0, 0), (.aload_n 1, 1, 1, 0, 0), (.getfield 12, 3, 5, 0, 0)] (pc1 := 8) (lo1 := [some (.ref 213), some (.ref 1)]) (st1 := [.ref 2, .ref 214]) (μ1 := μ) (vc := True) rfl (by decide +kernel) rfl trivial ?_
  refine pm_callV2 mi_X3_copyFrom (ix := 61) (b := 214) (ci := 3) (kc2 := 0) (ks2 := 0) (As := [.ref 2]) (rest := []) (c_X3_copyFrom_213_1 μ hR.2.1 hm1) cal_X3_copyFrom lk5_61 (by decide +kernel) rfl (by decide +kernel) rfl rfl rfl rfl (Nat.le_of_ble_eq_true rfl) (by decide) (by decide) (fun _ _ h9 => h9.elim) ?_
  rintro _ μ1 ⟨rfl, x1, f1, r1⟩
  show pm_V _ _ _ _ 11 _ [] _
  refine pm_bl [(.aload_n 0, 1, 0, 0, 0), (.getfield 21, 3, 5, 1, 0), (.aload_n 1, 1, 1, 0, 0), (.getfield 21, 3, 5, 1, 0)] (pc1 := 19) (lo1 := [some (.ref 213), some (.ref 1)]) (st1 := [.ref 5, .ref 217]) (μ1 := μ1) (vc := True) rfl (by decide +kernel) rfl trivial ?_
  refine pm_callV2 mi_X6_copyFrom (ix := 65) (b := 217) (ci := 6) (kc2 := 0) (ks2 := 0) (As := [.ref 5]) (rest := []) (c_X6_copyFrom_213_1 μ1 (lr_Rp.st (b := 1) hR.2.2.1 hm3 (fun k h1 h2 => by rw [f1 _ (by omega)]) (fun _ _ _ => rfl)) hm3) cal_X6_copyFrom lk5_65 (by decide +kernel) rfl (by decide +kernel) rfl rfl rfl rfl (Nat.le_of_ble_eq_true rfl) (by decide) (by decide) (fun _ _ h9 => h9.elim) ?_
  rintro _ μ2 ⟨rfl, x2, f2, r2⟩
  show pm_V _ _ _ _ 22 _ [] _
  refine pm_bl [(.aload_n 0, 1, 0, 0, 0), (.getfield 28, 3, 5, 2, 0), (.aload_n 1, 1, 1, 0, 0), (.getfield 28, 3, 5, 2, 0)] (pc1 := 30) (lo1 := [some (.ref 213), some (.ref 1)]) (st1 := [.ref 10, .ref 222]) (μ1 := μ2) (vc := True) rfl (by decide +kernel) rfl trivial ?_
  refine pm_callV2 mi_X8_copyFrom (ix := 68) (b := 222) (ci := 8) (kc2 := 0) (ks2 := 0) (As := [.ref 10]) (rest := []) (c_X8_copyFrom_213_1 μ2 (lr_Rw.st (b := 1) hR.2.2.2.1 hm2 (fun k h1 h2 => by rw [f2 _ (by omega), f1 _ (by omega)]) (fun _ _ _ => rfl)) hm2) cal_X8_copyFrom lk5_68 (by decide +kernel) rfl (by decide +kernel) rfl rfl rfl rfl (Nat.le_of_ble_eq_true rfl) (by decide) (by decide) (fun _ _ h9 => h9.elim) ?_
  rintro _ μ3 ⟨rfl, x3, f3, r3⟩
  show pm_V _ _ _ _ 33 _ [] _
  refine pm_bl [(.aload_n 0, 1, 0, 0, 0), (.getfield 35, 3, 5, 3, 0), (.aload_n 1, 1, 1, 0, 0), (.getfield 35, 3, 5, 3, 0)] (pc1 := 41) (lo1 := [some (.ref 213), some (.ref 1)]) (st1 := [.ref 16, .ref 228]) (μ1 := μ3) (vc := True) rfl (by decide +kernel) rfl trivial ?_
  refine pm_callV2 mi_X7_copyFrom (ix := 71) (b := 228) (ci := 7) (kc2 := 0) (ks2 := 0) (As := [.ref 16]) (rest := []) (c_X7_copyFrom_213_1 μ3 (lr_Rr.st (b := 1) hR.2.2.2.2.1 hm4 (fun k h1 h2 => by rw [f3 _ (by omega), f2 _ (by omega), f1 _ (by omega)]) (fun _ _ _ => rfl)) hm4) cal_X7_copyFrom lk5_71 (by decide +kernel) rfl (by decide +kernel) rfl rfl rfl rfl (Nat.le_of_ble_eq_true rfl) (by decide) (by decide) (fun _ _ h9 => h9.elim) ?_
  rintro _ μ4 ⟨rfl, x4, f4, r4⟩
  show pm_V _ _ _ _ 44 _ [] _
  refine pm_bl [(.aload_n 0, 1, 0, 0, 0), (.getfield 42, 3, 5, 4, 0), (.aload_n 1, 1, 1, 0, 0), (.getfield 42, 3, 5, 4, 0)] (pc1 := 52) (lo1 := [some (.ref 213), some (.ref 1)]) (st1 := [.ref 22, .ref 234]) (μ1 := μ4) (vc := True) rfl (by decide +kernel) rfl trivial ?_
  refine pm_callV2 mi_X0_copyFrom (ix := 74) (b := 234) (ci := 0) (kc2 := 0) (ks2 := 0) (As := [.ref 22]) (rest := []) (c_X0_copyFrom_213_1 μ4 (lr_Ra.st (b := 1) hR.2.2.2.2.2.1 hm5 (fun k h1 h2 => by rw [f4 _ (by omega), f3 _ (by omega), f2 _ (by omega), f1 _ (by omega)]) (fun _ _ _ => rfl)) hm5) cal_X0_copyFrom lk5_74 (by decide +kernel) rfl (by decide +kernel) rfl rfl rfl rfl (Nat.le_of_ble_eq_true rfl) (by decide) (by decide) (fun _ _ h9 => h9.elim) ?_
  rintro _ μ5 ⟨rfl, x5, f5, r5⟩
  show pm_V _ _ _ _ 55 _ [] _
  refine pm_bl [(.aload_n 0, 1, 0, 0, 0), (.getfield 49, 3, 5, 5, 0), (.aload_n 1, 1, 1, 0, 0), (.getfield 49, 3, 5, 5, 0)] (pc1 := 63) (lo1 := [some (.ref 213), some (.ref 1)]) (st1 := [.ref 26, .ref 238]) (μ1 := μ5) (vc := True) rfl (by decide +kernel) rfl trivial ?_
  refine pm_callV2 mi_X4_copyFrom (ix := 77) (b := 238) (ci := 4) (kc2 := 0) (ks2 := 0) (As := [.ref 26]) (rest := []) (c_X4_copyFrom_213_1 μ5 (lr_Rl.st (b := 1) hR.2.2.2.2.2.2 hm6 (fun k h1 h2 => by rw [f5 _ (by omega), f4 _ (by omega), f3 _ (by omega), f2 _ (by omega), f1 _ (by omega)]) rfl (fun _ _ _ => rfl)) hm6) cal_X4_copyFrom lk5_77 (by decide +kernel) rfl (by decide +kernel) rfl rfl rfl rfl (Nat.le_of_ble_eq_true rfl) (by decide) (by decide) (fun _ _ h9 => h9.elim) ?_
  rintro _ μ6 ⟨rfl, x6, f6, r6⟩
  show pm_V _ _ _ _ 66 _ [] _
  refine pm_bl [(.aload_n 0, 1, 0, 0, 0), (.aload_n 1, 1, 1, 0, 0), (.getfield 53, 3, 5, 6, 0), (.putfield 53, 3, 5, 6, 0)] (pc1 := 74) (lo1 := [some (.ref 213), some (.ref 1)]) (st1 := []) (μ1 := pm_set μ6 213 6 (μ6.1 1 6)) (vc := True) rfl (by decide +kernel) rfl trivial ?_
  exact pm_vret rfl (by decide) (by decide) (by decide +kernel) (⟨rfl, (x6.trans (x5.trans (x4.trans (x3.trans (x2.trans x1))))), fun i hi => by rw [pm_set_off (by omega), f6 _ (by omega), f5 _ (by omega), f4 _ (by omega), f3 _ (by omega), f2 _ (by omega), f1 _ (by omega)], by rw [pm_set_hit, f6 _ (by omega), f5 _ (by omega), f4 _ (by omega), f3 _ (by omega), f2 _ (by omega), f1 _ (by omega)]; exact hR.1, lr_Rh.st (b := 213) r1 hm1 (fun k h1 h2 => by rw [pm_set_off (by omega), f6 _ (by omega), f5 _ (by omega), f4 _ (by omega), f3 _ (by omega), f2 _ (by omega)]) (fun _ _ _ => rfl), lr_Rp.st (b := 213) r2 hm3 (fun k h1 h2 => by rw [pm_set_off (by omega), f6 _ (by omega), f5 _ (by omega), f4 _ (by omega), f3 _ (by omega)]) (fun _ _ _ => rfl), lr_Rw.st (b := 213) r3 hm2 (fun k h1 h2 => by rw [pm_set_off (by omega), f6 _ (by omega), f5 _ (by omega), f4 _ (by omega)]) (fun _ _ _ => rfl), lr_Rr.st (b := 213) r4 hm4 (fun k h1 h2 => by rw [pm_set_off (by omega), f6 _ (by omega), f5 _ (by omega)]) (fun _ _ _ => rfl), lr_Ra.st (b := 213) r5 hm5 (fun k h1 h2 => by rw [pm_set_off (by omega), f6 _ (by omega)]) (fun _ _ _ => rfl), lr_Rl.st (b := 213) r6 hm6 (fun k h1 h2 => by rw [pm_set_off (by omega)]) rfl (fun _ _ _ => rfl)⟩)
set_option maxHeartbeats 4000000 in
set_option maxRecDepth 100000 in
theorem c_X3_copyFrom_252_1 {g : Nat → Int32} (μ : pm_Mm) (hX : lr_Rh μ.1 1 g) (hn : lr_n g 2 ≤ 16) : pm_CT mi_X3_copyFrom [.ref 253, .ref 2] μ (fun v μ2 => v = none ∧ μ2.2 = μ.2 ∧ (∀ i, (i < 253 ∨ 255 < i) → μ2.1 i = μ.1 i) ∧ lr_Rh μ2.1 252 g) pm_NX := by
  refine pm_CT_of (lo := [some (.ref 253), some (.ref 2)]) (by decide +kernel) rfl rfl (by intro v hv; simp at hv; rcases hv with rfl | rfl <;> rfl) (Nat.le_of_ble_eq_true rfl) rfl ?_
  refine pm_bl [(.aload_n 0, 1, 0, 0, 0), (.aload_n 1, 1, 1, 0, 0), (.getfield 9, 3, 3, 0, 0), (.putfield 9, 3, 3, 0, 0), (.aload_n 1, 1, 1, 0, 0), (.getfield 15, 3, 3, 1, 0), (.aload_n 0, 1, 0, 0, 0), (.getfield 15, 3, 3, 1, 0)] (pc1 := 16) (lo1 := [some (.ref 253), some (.ref 2)]) (st1 := [.ref 254, .ref 3]) (μ1 := pm_set μ 253 0 (μ.1 2 0)) (vc := True) rfl (by decide +kernel) rfl trivial ?_
  refine pm_callSN2 mi_X9_copyRow (ix := 22) (host := RX9) (kc2 := 0) (ks2 := 0) (As := [.ref 3, .ref 254]) (rest := []) (c_X9_copyRow (a := 3) (b := 254) (n := 16) (pm_set μ 253 0 (μ.1 2 0)) rfl rfl (by decide)) cal_X9_copyRow (by decide +kernel) (by decide +kernel) (by decide +kernel) rfl rfl (Nat.le_of_ble_eq_true rfl) (by decide) (by decide) ?_
  rintro _ μ1 ⟨rfl, e1⟩
  show pm_V _ _ _ _ 19 _ [] _
  refine pm_bl [(.aload_n 1, 1, 1, 0, 0), (.getfield 19, 3, 3, 2, 0), (.aload_n 0, 1, 0, 0, 0), (.getfield 19, 3, 3, 2, 0)] (pc1 := 27) (lo1 := [some (.ref 253), some (.ref 2)]) (st1 := [.ref 255, .ref 4]) (μ1 := μ1) (vc := True) rfl (by decide +kernel) rfl trivial ?_
  refine pm_callSN2 mi_X9_copyRow (ix := 22) (host := RX9) (kc2 := 0) (ks2 := 0) (As := [.ref 4, .ref 255]) (rest := []) (c_X9_copyRow (a := 4) (b := 255) (n := 16) μ1 rfl rfl (by decide)) cal_X9_copyRow (by decide +kernel) (by decide +kernel) (by decide +kernel) rfl rfl (Nat.le_of_ble_eq_true rfl) (by decide) (by decide) ?_
  rintro _ μ2 ⟨rfl, e2⟩
  show pm_V _ _ _ _ 30 _ [] _
  exact pm_vret rfl (by decide) (by decide) (by decide +kernel) (by
    subst e1; subst e2
    refine ⟨rfl, rfl, fun i hi => by rw [pm_row_off (by omega), pm_row_off (by omega), pm_set_off (by omega)], lr_Rh.mv (b := 1) (b2 := 252) hX hn (by simp only [Nat.reduceAdd]; rw [pm_row_off (by decide), pm_row_off (by decide), pm_set_hit]) (fun k i h1 h2 h3 => ?_) (fun _ _ _ => rfl)⟩
    rcases (show k = 2 ∨ k = 3 by omega) with rfl | rfl
    · simp only [Nat.reduceAdd]; rw [pm_row_off (by decide), pm_row_at]; unfold va_cpy; rw [if_pos (by omega), pm_set_off (by decide), show 0 + (i - 0) = i from by omega]
    · simp only [Nat.reduceAdd]; rw [pm_row_at]; unfold va_cpy; rw [if_pos (by omega), pm_row_off (by decide), pm_set_off (by decide), show 0 + (i - 0) = i from by omega])
set_option maxHeartbeats 4000000 in
set_option maxRecDepth 100000 in
theorem c_X6_copyFrom_252_1 {g : Nat → Int32} (μ : pm_Mm) (hX : lr_Rp μ.1 1 g) (hn : lr_n g 35 ≤ 20) : pm_CT mi_X6_copyFrom [.ref 256, .ref 5] μ (fun v μ2 => v = none ∧ μ2.2 = μ.2 ∧ (∀ i, (i < 256 ∨ 260 < i) → μ2.1 i = μ.1 i) ∧ lr_Rp μ2.1 252 g) pm_NX := by
  refine pm_CT_of (lo := [some (.ref 256), some (.ref 5)]) (by decide +kernel) rfl rfl (by intro v hv; simp at hv; rcases hv with rfl | rfl <;> rfl) (Nat.le_of_ble_eq_true rfl) rfl ?_
  refine pm_bl [(.aload_n 0, 1, 0, 0, 0), (.aload_n 1, 1, 1, 0, 0), (.getfield 9, 3, 6, 0, 0), (.putfield 9, 3, 6, 0, 0), (.aload_n 1, 1, 1, 0, 0), (.getfield 15, 3, 6, 1, 0), (.aload_n 0, 1, 0, 0, 0), (.getfield 15, 3, 6, 1, 0)] (pc1 := 16) (lo1 := [some (.ref 256), some (.ref 5)]) (st1 := [.ref 257, .ref 6]) (μ1 := pm_set μ 256 0 (μ.1 5 0)) (vc := True) rfl (by decide +kernel) rfl trivial ?_
  refine pm_callSN2 mi_X9_copyRow (ix := 28) (host := RX9) (kc2 := 0) (ks2 := 0) (As := [.ref 6, .ref 257]) (rest := []) (c_X9_copyRow (a := 6) (b := 257) (n := 20) (pm_set μ 256 0 (μ.1 5 0)) rfl rfl (by decide)) cal_X9_copyRow (by decide +kernel) (by decide +kernel) (by decide +kernel) rfl rfl (Nat.le_of_ble_eq_true rfl) (by decide) (by decide) ?_
  rintro _ μ1 ⟨rfl, e1⟩
  show pm_V _ _ _ _ 19 _ [] _
  refine pm_bl [(.aload_n 1, 1, 1, 0, 0), (.getfield 19, 3, 6, 2, 0), (.aload_n 0, 1, 0, 0, 0), (.getfield 19, 3, 6, 2, 0)] (pc1 := 27) (lo1 := [some (.ref 256), some (.ref 5)]) (st1 := [.ref 258, .ref 7]) (μ1 := μ1) (vc := True) rfl (by decide +kernel) rfl trivial ?_
  refine pm_callSN2 mi_X9_copyRow (ix := 28) (host := RX9) (kc2 := 0) (ks2 := 0) (As := [.ref 7, .ref 258]) (rest := []) (c_X9_copyRow (a := 7) (b := 258) (n := 20) μ1 rfl rfl (by decide)) cal_X9_copyRow (by decide +kernel) (by decide +kernel) (by decide +kernel) rfl rfl (Nat.le_of_ble_eq_true rfl) (by decide) (by decide) ?_
  rintro _ μ2 ⟨rfl, e2⟩
  show pm_V _ _ _ _ 30 _ [] _
  refine pm_bl [(.aload_n 1, 1, 1, 0, 0), (.getfield 22, 3, 6, 3, 0), (.aload_n 0, 1, 0, 0, 0), (.getfield 22, 3, 6, 3, 0)] (pc1 := 38) (lo1 := [some (.ref 256), some (.ref 5)]) (st1 := [.ref 259, .ref 8]) (μ1 := μ2) (vc := True) rfl (by decide +kernel) rfl trivial ?_
  refine pm_callSN2 mi_X9_copyRow (ix := 28) (host := RX9) (kc2 := 0) (ks2 := 0) (As := [.ref 8, .ref 259]) (rest := []) (c_X9_copyRow (a := 8) (b := 259) (n := 20) μ2 rfl rfl (by decide)) cal_X9_copyRow (by decide +kernel) (by decide +kernel) (by decide +kernel) rfl rfl (Nat.le_of_ble_eq_true rfl) (by decide) (by decide) ?_
  rintro _ μ3 ⟨rfl, e3⟩
  show pm_V _ _ _ _ 41 _ [] _
  refine pm_bl [(.aload_n 1, 1, 1, 0, 0), (.getfield 25, 3, 6, 4, 0), (.aload_n 0, 1, 0, 0, 0), (.getfield 25, 3, 6, 4, 0)] (pc1 := 49) (lo1 := [some (.ref 256), some (.ref 5)]) (st1 := [.ref 260, .ref 9]) (μ1 := μ3) (vc := True) rfl (by decide +kernel) rfl trivial ?_
  refine pm_callSN2 mi_X9_copyRow (ix := 28) (host := RX9) (kc2 := 0) (ks2 := 0) (As := [.ref 9, .ref 260]) (rest := []) (c_X9_copyRow (a := 9) (b := 260) (n := 20) μ3 rfl rfl (by decide)) cal_X9_copyRow (by decide +kernel) (by decide +kernel) (by decide +kernel) rfl rfl (Nat.le_of_ble_eq_true rfl) (by decide) (by decide) ?_
  rintro _ μ4 ⟨rfl, e4⟩
  show pm_V _ _ _ _ 52 _ [] _
  exact pm_vret rfl (by decide) (by decide) (by decide +kernel) (by
    subst e1; subst e2; subst e3; subst e4
    refine ⟨rfl, rfl, fun i hi => by rw [pm_row_off (by omega), pm_row_off (by omega), pm_row_off (by omega), pm_row_off (by omega), pm_set_off (by omega)], lr_Rp.mv (b := 1) (b2 := 252) hX hn (by simp only [Nat.reduceAdd]; rw [pm_row_off (by decide), pm_row_off (by decide), pm_row_off (by decide), pm_row_off (by decide), pm_set_hit]) (fun k i h1 h2 h3 => ?_) (fun _ _ _ => rfl)⟩
    rcases (show k = 5 ∨ k = 6 ∨ k = 7 ∨ k = 8 by omega) with rfl | rfl | rfl | rfl
    · simp only [Nat.reduceAdd]; rw [pm_row_off (by decide), pm_row_off (by decide), pm_row_off (by decide), pm_row_at]; unfold va_cpy; rw [if_pos (by omega), pm_set_off (by decide), show 0 + (i - 0) = i from by omega]
    · simp only [Nat.reduceAdd]; rw [pm_row_off (by decide), pm_row_off (by decide), pm_row_at]; unfold va_cpy; rw [if_pos (by omega), pm_row_off (by decide), pm_set_off (by decide), show 0 + (i - 0) = i from by omega]
    · simp only [Nat.reduceAdd]; rw [pm_row_off (by decide), pm_row_at]; unfold va_cpy; rw [if_pos (by omega), pm_row_off (by decide), pm_row_off (by decide), pm_set_off (by decide), show 0 + (i - 0) = i from by omega]
    · simp only [Nat.reduceAdd]; rw [pm_row_at]; unfold va_cpy; rw [if_pos (by omega), pm_row_off (by decide), pm_row_off (by decide), pm_row_off (by decide), pm_set_off (by decide), show 0 + (i - 0) = i from by omega])
set_option maxHeartbeats 4000000 in
set_option maxRecDepth 100000 in
theorem c_X8_copyFrom_252_1 {g : Nat → Int32} (μ : pm_Mm) (hX : lr_Rw μ.1 1 g) (hn : lr_n g 116 ≤ 10) : pm_CT mi_X8_copyFrom [.ref 261, .ref 10] μ (fun v μ2 => v = none ∧ μ2.2 = μ.2 ∧ (∀ i, (i < 261 ∨ 266 < i) → μ2.1 i = μ.1 i) ∧ lr_Rw μ2.1 252 g) pm_NX := by
  refine pm_CT_of (lo := [some (.ref 261), some (.ref 10)]) (by decide +kernel) rfl rfl (by intro v hv; simp at hv; rcases hv with rfl | rfl <;> rfl) (Nat.le_of_ble_eq_true rfl) rfl ?_
  refine pm_bl [(.aload_n 0, 1, 0, 0, 0), (.aload_n 1, 1, 1, 0, 0), (.getfield 9, 3, 8, 0, 0), (.putfield 9, 3, 8, 0, 0), (.aload_n 1, 1, 1, 0, 0), (.getfield 15, 3, 8, 1, 0), (.aload_n 0, 1, 0, 0, 0), (.getfield 15, 3, 8, 1, 0)] (pc1 := 16) (lo1 := [some (.ref 261), some (.ref 10)]) (st1 := [.ref 262, .ref 11]) (μ1 := pm_set μ 261 0 (μ.1 10 0)) (vc := True) rfl (by decide +kernel) rfl trivial ?_
  refine pm_callSN2 mi_X9_copyRow (ix := 31) (host := RX9) (kc2 := 0) (ks2 := 0) (As := [.ref 11, .ref 262]) (rest := []) (c_X9_copyRow (a := 11) (b := 262) (n := 10) (pm_set μ 261 0 (μ.1 10 0)) rfl rfl (by decide)) cal_X9_copyRow (by decide +kernel) (by decide +kernel) (by decide +kernel) rfl rfl (Nat.le_of_ble_eq_true rfl) (by decide) (by decide) ?_
  rintro _ μ1 ⟨rfl, e1⟩
  show pm_V _ _ _ _ 19 _ [] _
  refine pm_bl [(.aload_n 1, 1, 1, 0, 0), (.getfield 19, 3, 8, 2, 0), (.aload_n 0, 1, 0, 0, 0), (.getfield 19, 3, 8, 2, 0)] (pc1 := 27) (lo1 := [some (.ref 261), some (.ref 10)]) (st1 := [.ref 263, .ref 12]) (μ1 := μ1) (vc := True) rfl (by decide +kernel) rfl trivial ?_
  refine pm_callSN2 mi_X9_copyRow (ix := 31) (host := RX9) (kc2 := 0) (ks2 := 0) (As := [.ref 12, .ref 263]) (rest := []) (c_X9_copyRow (a := 12) (b := 263) (n := 10) μ1 rfl rfl (by decide)) cal_X9_copyRow (by decide +kernel) (by decide +kernel) (by decide +kernel) rfl rfl (Nat.le_of_ble_eq_true rfl) (by decide) (by decide) ?_
  rintro _ μ2 ⟨rfl, e2⟩
  show pm_V _ _ _ _ 30 _ [] _
  refine pm_bl [(.aload_n 1, 1, 1, 0, 0), (.getfield 22, 3, 8, 3, 0), (.aload_n 0, 1, 0, 0, 0), (.getfield 22, 3, 8, 3, 0)] (pc1 := 38) (lo1 := [some (.ref 261), some (.ref 10)]) (st1 := [.ref 264, .ref 13]) (μ1 := μ2) (vc := True) rfl (by decide +kernel) rfl trivial ?_
  refine pm_callSN2 mi_X9_copyRow (ix := 31) (host := RX9) (kc2 := 0) (ks2 := 0) (As := [.ref 13, .ref 264]) (rest := []) (c_X9_copyRow (a := 13) (b := 264) (n := 10) μ2 rfl rfl (by decide)) cal_X9_copyRow (by decide +kernel) (by decide +kernel) (by decide +kernel) rfl rfl (Nat.le_of_ble_eq_true rfl) (by decide) (by decide) ?_
  rintro _ μ3 ⟨rfl, e3⟩
  show pm_V _ _ _ _ 41 _ [] _
  refine pm_bl [(.aload_n 1, 1, 1, 0, 0), (.getfield 25, 3, 8, 4, 0), (.aload_n 0, 1, 0, 0, 0), (.getfield 25, 3, 8, 4, 0)] (pc1 := 49) (lo1 := [some (.ref 261), some (.ref 10)]) (st1 := [.ref 265, .ref 14]) (μ1 := μ3) (vc := True) rfl (by decide +kernel) rfl trivial ?_
  refine pm_callSN2 mi_X9_copyRow (ix := 31) (host := RX9) (kc2 := 0) (ks2 := 0) (As := [.ref 14, .ref 265]) (rest := []) (c_X9_copyRow (a := 14) (b := 265) (n := 10) μ3 rfl rfl (by decide)) cal_X9_copyRow (by decide +kernel) (by decide +kernel) (by decide +kernel) rfl rfl (Nat.le_of_ble_eq_true rfl) (by decide) (by decide) ?_
  rintro _ μ4 ⟨rfl, e4⟩
  show pm_V _ _ _ _ 52 _ [] _
  refine pm_bl [(.aload_n 1, 1, 1, 0, 0), (.getfield 28, 3, 8, 5, 0), (.aload_n 0, 1, 0, 0, 0), (.getfield 28, 3, 8, 5, 0)] (pc1 := 60) (lo1 := [some (.ref 261), some (.ref 10)]) (st1 := [.ref 266, .ref 15]) (μ1 := μ4) (vc := True) rfl (by decide +kernel) rfl trivial ?_
  refine pm_callSN2 mi_X9_copyRow (ix := 31) (host := RX9) (kc2 := 0) (ks2 := 0) (As := [.ref 15, .ref 266]) (rest := []) (c_X9_copyRow (a := 15) (b := 266) (n := 10) μ4 rfl rfl (by decide)) cal_X9_copyRow (by decide +kernel) (by decide +kernel) (by decide +kernel) rfl rfl (Nat.le_of_ble_eq_true rfl) (by decide) (by decide) ?_
  rintro _ μ5 ⟨rfl, e5⟩
  show pm_V _ _ _ _ 63 _ [] _
  exact pm_vret rfl (by decide) (by decide) (by decide +kernel) (by
    subst e1; subst e2; subst e3; subst e4; subst e5
    refine ⟨rfl, rfl, fun i hi => by rw [pm_row_off (by omega), pm_row_off (by omega), pm_row_off (by omega), pm_row_off (by omega), pm_row_off (by omega), pm_set_off (by omega)], lr_Rw.mv (b := 1) (b2 := 252) hX hn (by simp only [Nat.reduceAdd]; rw [pm_row_off (by decide), pm_row_off (by decide), pm_row_off (by decide), pm_row_off (by decide), pm_row_off (by decide), pm_set_hit]) (fun k i h1 h2 h3 => ?_) (fun _ _ _ => rfl)⟩
    rcases (show k = 10 ∨ k = 11 ∨ k = 12 ∨ k = 13 ∨ k = 14 by omega) with rfl | rfl | rfl | rfl | rfl
    · simp only [Nat.reduceAdd]; rw [pm_row_off (by decide), pm_row_off (by decide), pm_row_off (by decide), pm_row_off (by decide), pm_row_at]; unfold va_cpy; rw [if_pos (by omega), pm_set_off (by decide), show 0 + (i - 0) = i from by omega]
    · simp only [Nat.reduceAdd]; rw [pm_row_off (by decide), pm_row_off (by decide), pm_row_off (by decide), pm_row_at]; unfold va_cpy; rw [if_pos (by omega), pm_row_off (by decide), pm_set_off (by decide), show 0 + (i - 0) = i from by omega]
    · simp only [Nat.reduceAdd]; rw [pm_row_off (by decide), pm_row_off (by decide), pm_row_at]; unfold va_cpy; rw [if_pos (by omega), pm_row_off (by decide), pm_row_off (by decide), pm_set_off (by decide), show 0 + (i - 0) = i from by omega]
    · simp only [Nat.reduceAdd]; rw [pm_row_off (by decide), pm_row_at]; unfold va_cpy; rw [if_pos (by omega), pm_row_off (by decide), pm_row_off (by decide), pm_row_off (by decide), pm_set_off (by decide), show 0 + (i - 0) = i from by omega]
    · simp only [Nat.reduceAdd]; rw [pm_row_at]; unfold va_cpy; rw [if_pos (by omega), pm_row_off (by decide), pm_row_off (by decide), pm_row_off (by decide), pm_row_off (by decide), pm_set_off (by decide), show 0 + (i - 0) = i from by omega])
set_option maxHeartbeats 4000000 in
set_option maxRecDepth 100000 in
theorem c_X7_copyFrom_252_1 {g : Nat → Int32} (μ : pm_Mm) (hX : lr_Rr μ.1 1 g) (hn : lr_n g 167 ≤ 12) : pm_CT mi_X7_copyFrom [.ref 267, .ref 16] μ (fun v μ2 => v = none ∧ μ2.2 = μ.2 ∧ (∀ i, (i < 267 ∨ 272 < i) → μ2.1 i = μ.1 i) ∧ lr_Rr μ2.1 252 g) pm_NX := by
  refine pm_CT_of (lo := [some (.ref 267), some (.ref 16)]) (by decide +kernel) rfl rfl (by intro v hv; simp at hv; rcases hv with rfl | rfl <;> rfl) (Nat.le_of_ble_eq_true rfl) rfl ?_
  refine pm_bl [(.aload_n 0, 1, 0, 0, 0), (.aload_n 1, 1, 1, 0, 0), (.getfield 9, 3, 7, 0, 0), (.putfield 9, 3, 7, 0, 0), (.aload_n 1, 1, 1, 0, 0), (.getfield 15, 3, 7, 1, 0), (.aload_n 0, 1, 0, 0, 0), (.getfield 15, 3, 7, 1, 0)] (pc1 := 16) (lo1 := [some (.ref 267), some (.ref 16)]) (st1 := [.ref 268, .ref 17]) (μ1 := pm_set μ 267 0 (μ.1 16 0)) (vc := True) rfl (by decide +kernel) rfl trivial ?_
  refine pm_callSN2 mi_X9_copyRow (ix := 31) (host := RX9) (kc2 := 0) (ks2 := 0) (As := [.ref 17, .ref 268]) (rest := []) (c_X9_copyRow (a := 17) (b := 268) (n := 12) (pm_set μ 267 0 (μ.1 16 0)) rfl rfl (by decide)) cal_X9_copyRow (by decide +kernel) (by decide +kernel) (by decide +kernel) rfl rfl (Nat.le_of_ble_eq_true rfl) (by decide) (by decide) ?_
  rintro _ μ1 ⟨rfl, e1⟩
  show pm_V _ _ _ _ 19 _ [] _
  refine pm_bl [(.aload_n 1, 1, 1, 0, 0), (.getfield 19, 3, 7, 2, 0), (.aload_n 0, 1, 0, 0, 0), (.getfield 19, 3, 7, 2, 0)] (pc1 := 27) (lo1 := [some (.ref 267), some (.ref 16)]) (st1 := [.ref 269, .ref 18]) (μ1 := μ1) (vc := True) rfl (by decide +kernel) rfl trivial ?_
  refine pm_callSN2 mi_X9_copyRow (ix := 31) (host := RX9) (kc2 := 0) (ks2 := 0) (As := [.ref 18, .ref 269]) (rest := []) (c_X9_copyRow (a := 18) (b := 269) (n := 12) μ1 rfl rfl (by decide)) cal_X9_copyRow (by decide +kernel) (by decide +kernel) (by decide +kernel) rfl rfl (Nat.le_of_ble_eq_true rfl) (by decide) (by decide) ?_
  rintro _ μ2 ⟨rfl, e2⟩
  show pm_V _ _ _ _ 30 _ [] _
  refine pm_bl [(.aload_n 1, 1, 1, 0, 0), (.getfield 22, 3, 7, 3, 0), (.aload_n 0, 1, 0, 0, 0), (.getfield 22, 3, 7, 3, 0)] (pc1 := 38) (lo1 := [some (.ref 267), some (.ref 16)]) (st1 := [.ref 270, .ref 19]) (μ1 := μ2) (vc := True) rfl (by decide +kernel) rfl trivial ?_
  refine pm_callSN2 mi_X9_copyRow (ix := 31) (host := RX9) (kc2 := 0) (ks2 := 0) (As := [.ref 19, .ref 270]) (rest := []) (c_X9_copyRow (a := 19) (b := 270) (n := 12) μ2 rfl rfl (by decide)) cal_X9_copyRow (by decide +kernel) (by decide +kernel) (by decide +kernel) rfl rfl (Nat.le_of_ble_eq_true rfl) (by decide) (by decide) ?_
  rintro _ μ3 ⟨rfl, e3⟩
  show pm_V _ _ _ _ 41 _ [] _
  refine pm_bl [(.aload_n 1, 1, 1, 0, 0), (.getfield 25, 3, 7, 4, 0), (.aload_n 0, 1, 0, 0, 0), (.getfield 25, 3, 7, 4, 0)] (pc1 := 49) (lo1 := [some (.ref 267), some (.ref 16)]) (st1 := [.ref 271, .ref 20]) (μ1 := μ3) (vc := True) rfl (by decide +kernel) rfl trivial ?_
  refine pm_callSN2 mi_X9_copyRow (ix := 31) (host := RX9) (kc2 := 0) (ks2 := 0) (As := [.ref 20, .ref 271]) (rest := []) (c_X9_copyRow (a := 20) (b := 271) (n := 12) μ3 rfl rfl (by decide)) cal_X9_copyRow (by decide +kernel) (by decide +kernel) (by decide +kernel) rfl rfl (Nat.le_of_ble_eq_true rfl) (by decide) (by decide) ?_
  rintro _ μ4 ⟨rfl, e4⟩
  show pm_V _ _ _ _ 52 _ [] _
  refine pm_bl [(.aload_n 1, 1, 1, 0, 0), (.getfield 28, 3, 7, 5, 0), (.aload_n 0, 1, 0, 0, 0), (.getfield 28, 3, 7, 5, 0)] (pc1 := 60) (lo1 := [some (.ref 267), some (.ref 16)]) (st1 := [.ref 272, .ref 21]) (μ1 := μ4) (vc := True) rfl (by decide +kernel) rfl trivial ?_
  refine pm_callSN2 mi_X9_copyRow (ix := 31) (host := RX9) (kc2 := 0) (ks2 := 0) (As := [.ref 21, .ref 272]) (rest := []) (c_X9_copyRow (a := 21) (b := 272) (n := 12) μ4 rfl rfl (by decide)) cal_X9_copyRow (by decide +kernel) (by decide +kernel) (by decide +kernel) rfl rfl (Nat.le_of_ble_eq_true rfl) (by decide) (by decide) ?_
  rintro _ μ5 ⟨rfl, e5⟩
  show pm_V _ _ _ _ 63 _ [] _
  exact pm_vret rfl (by decide) (by decide) (by decide +kernel) (by
    subst e1; subst e2; subst e3; subst e4; subst e5
    refine ⟨rfl, rfl, fun i hi => by rw [pm_row_off (by omega), pm_row_off (by omega), pm_row_off (by omega), pm_row_off (by omega), pm_row_off (by omega), pm_set_off (by omega)], lr_Rr.mv (b := 1) (b2 := 252) hX hn (by simp only [Nat.reduceAdd]; rw [pm_row_off (by decide), pm_row_off (by decide), pm_row_off (by decide), pm_row_off (by decide), pm_row_off (by decide), pm_set_hit]) (fun k i h1 h2 h3 => ?_) (fun _ _ _ => rfl)⟩
    rcases (show k = 16 ∨ k = 17 ∨ k = 18 ∨ k = 19 ∨ k = 20 by omega) with rfl | rfl | rfl | rfl | rfl
    · simp only [Nat.reduceAdd]; rw [pm_row_off (by decide), pm_row_off (by decide), pm_row_off (by decide), pm_row_off (by decide), pm_row_at]; unfold va_cpy; rw [if_pos (by omega), pm_set_off (by decide), show 0 + (i - 0) = i from by omega]
    · simp only [Nat.reduceAdd]; rw [pm_row_off (by decide), pm_row_off (by decide), pm_row_off (by decide), pm_row_at]; unfold va_cpy; rw [if_pos (by omega), pm_row_off (by decide), pm_set_off (by decide), show 0 + (i - 0) = i from by omega]
    · simp only [Nat.reduceAdd]; rw [pm_row_off (by decide), pm_row_off (by decide), pm_row_at]; unfold va_cpy; rw [if_pos (by omega), pm_row_off (by decide), pm_row_off (by decide), pm_set_off (by decide), show 0 + (i - 0) = i from by omega]
    · simp only [Nat.reduceAdd]; rw [pm_row_off (by decide), pm_row_at]; unfold va_cpy; rw [if_pos (by omega), pm_row_off (by decide), pm_row_off (by decide), pm_row_off (by decide), pm_set_off (by decide), show 0 + (i - 0) = i from by omega]
    · simp only [Nat.reduceAdd]; rw [pm_row_at]; unfold va_cpy; rw [if_pos (by omega), pm_row_off (by decide), pm_row_off (by decide), pm_row_off (by decide), pm_row_off (by decide), pm_set_off (by decide), show 0 + (i - 0) = i from by omega])
set_option maxHeartbeats 4000000 in
set_option maxRecDepth 100000 in
theorem c_X0_copyFrom_252_1 {g : Nat → Int32} (μ : pm_Mm) (hX : lr_Ra μ.1 1 g) (hn : lr_n g 228 ≤ 20) : pm_CT mi_X0_copyFrom [.ref 273, .ref 22] μ (fun v μ2 => v = none ∧ μ2.2 = μ.2 ∧ (∀ i, (i < 273 ∨ 276 < i) → μ2.1 i = μ.1 i) ∧ lr_Ra μ2.1 252 g) pm_NX := by
  refine pm_CT_of (lo := [some (.ref 273), some (.ref 22)]) (by decide +kernel) rfl rfl (by intro v hv; simp at hv; rcases hv with rfl | rfl <;> rfl) (Nat.le_of_ble_eq_true rfl) rfl ?_
  refine pm_bl [(.aload_n 0, 1, 0, 0, 0), (.aload_n 1, 1, 1, 0, 0), (.getfield 9, 3, 0, 0, 0), (.putfield 9, 3, 0, 0, 0), (.aload_n 1, 1, 1, 0, 0), (.getfield 15, 3, 0, 1, 0), (.aload_n 0, 1, 0, 0, 0), (.getfield 15, 3, 0, 1, 0)] (pc1 := 16) (lo1 := [some (.ref 273), some (.ref 22)]) (st1 := [.ref 274, .ref 23]) (μ1 := pm_set μ 273 0 (μ.1 22 0)) (vc := True) rfl (by decide +kernel) rfl trivial ?_
  refine pm_callSN2 mi_X9_copyRow (ix := 25) (host := RX9) (kc2 := 0) (ks2 := 0) (As := [.ref 23, .ref 274]) (rest := []) (c_X9_copyRow (a := 23) (b := 274) (n := 20) (pm_set μ 273 0 (μ.1 22 0)) rfl rfl (by decide)) cal_X9_copyRow (by decide +kernel) (by decide +kernel) (by decide +kernel) rfl rfl (Nat.le_of_ble_eq_true rfl) (by decide) (by decide) ?_
  rintro _ μ1 ⟨rfl, e1⟩
  show pm_V _ _ _ _ 19 _ [] _
  refine pm_bl [(.aload_n 1, 1, 1, 0, 0), (.getfield 19, 3, 0, 2, 0), (.aload_n 0, 1, 0, 0, 0), (.getfield 19, 3, 0, 2, 0)] (pc1 := 27) (lo1 := [some (.ref 273), some (.ref 22)]) (st1 := [.ref 275, .ref 24]) (μ1 := μ1) (vc := True) rfl (by decide +kernel) rfl trivial ?_
  refine pm_callSN2 mi_X9_copyRow (ix := 25) (host := RX9) (kc2 := 0) (ks2 := 0) (As := [.ref 24, .ref 275]) (rest := []) (c_X9_copyRow (a := 24) (b := 275) (n := 20) μ1 rfl rfl (by decide)) cal_X9_copyRow (by decide +kernel) (by decide +kernel) (by decide +kernel) rfl rfl (Nat.le_of_ble_eq_true rfl) (by decide) (by decide) ?_
  rintro _ μ2 ⟨rfl, e2⟩
  show pm_V _ _ _ _ 30 _ [] _
  refine pm_bl [(.aload_n 1, 1, 1, 0, 0), (.getfield 22, 3, 0, 3, 0), (.aload_n 0, 1, 0, 0, 0), (.getfield 22, 3, 0, 3, 0)] (pc1 := 38) (lo1 := [some (.ref 273), some (.ref 22)]) (st1 := [.ref 276, .ref 25]) (μ1 := μ2) (vc := True) rfl (by decide +kernel) rfl trivial ?_
  refine pm_callSN2 mi_X9_copyRow (ix := 25) (host := RX9) (kc2 := 0) (ks2 := 0) (As := [.ref 25, .ref 276]) (rest := []) (c_X9_copyRow (a := 25) (b := 276) (n := 20) μ2 rfl rfl (by decide)) cal_X9_copyRow (by decide +kernel) (by decide +kernel) (by decide +kernel) rfl rfl (Nat.le_of_ble_eq_true rfl) (by decide) (by decide) ?_
  rintro _ μ3 ⟨rfl, e3⟩
  show pm_V _ _ _ _ 41 _ [] _
  exact pm_vret rfl (by decide) (by decide) (by decide +kernel) (by
    subst e1; subst e2; subst e3
    refine ⟨rfl, rfl, fun i hi => by rw [pm_row_off (by omega), pm_row_off (by omega), pm_row_off (by omega), pm_set_off (by omega)], lr_Ra.mv (b := 1) (b2 := 252) hX hn (by simp only [Nat.reduceAdd]; rw [pm_row_off (by decide), pm_row_off (by decide), pm_row_off (by decide), pm_set_hit]) (fun k i h1 h2 h3 => ?_) (fun _ _ _ => rfl)⟩
    rcases (show k = 22 ∨ k = 23 ∨ k = 24 by omega) with rfl | rfl | rfl
    · simp only [Nat.reduceAdd]; rw [pm_row_off (by decide), pm_row_off (by decide), pm_row_at]; unfold va_cpy; rw [if_pos (by omega), pm_set_off (by decide), show 0 + (i - 0) = i from by omega]
    · simp only [Nat.reduceAdd]; rw [pm_row_off (by decide), pm_row_at]; unfold va_cpy; rw [if_pos (by omega), pm_row_off (by decide), pm_set_off (by decide), show 0 + (i - 0) = i from by omega]
    · simp only [Nat.reduceAdd]; rw [pm_row_at]; unfold va_cpy; rw [if_pos (by omega), pm_row_off (by decide), pm_row_off (by decide), pm_set_off (by decide), show 0 + (i - 0) = i from by omega])
set_option maxHeartbeats 4000000 in
set_option maxRecDepth 100000 in
theorem c_X4_copyFrom_252_1 {g : Nat → Int32} (μ : pm_Mm) (hX : lr_Rl μ.1 1 g) (hn : lr_n g 289 ≤ 30) : pm_CT mi_X4_copyFrom [.ref 277, .ref 26] μ (fun v μ2 => v = none ∧ μ2.2 = μ.2 ∧ (∀ i, (i < 277 ∨ 289 < i) → μ2.1 i = μ.1 i) ∧ lr_Rl μ2.1 252 g) pm_NX := by
  refine pm_CT_of (lo := [some (.ref 277), some (.ref 26)]) (by decide +kernel) rfl rfl (by intro v hv; simp at hv; rcases hv with rfl | rfl <;> rfl) (Nat.le_of_ble_eq_true rfl) rfl ?_
  refine pm_bl [(.aload_n 0, 1, 0, 0, 0), (.aload_n 1, 1, 1, 0, 0), (.getfield 9, 3, 4, 0, 0), (.putfield 9, 3, 4, 0, 0), (.aload_n 0, 1, 0, 0, 0), (.aload_n 1, 1, 1, 0, 0), (.getfield 15, 3, 4, 1, 0), (.putfield 15, 3, 4, 1, 0), (.aload_n 1, 1, 1, 0, 0), (.getfield 18, 3, 4, 2, 0), (.aload_n 0, 1, 0, 0, 0), (.getfield 18, 3, 4, 2, 0)] (pc1 := 24) (lo1 := [some (.ref 277), some (.ref 26)]) (st1 := [.ref 278, .ref 27]) (μ1 := pm_set (pm_set μ 277 0 (μ.1 26 0)) 277 1 ((pm_set μ 277 0 (μ.1 26 0)).1 26 1)) (vc := True) rfl (by decide +kernel) rfl trivial ?_
  rw [show (pm_set μ 277 0 (μ.1 26 0)).1 26 1 = μ.1 26 1 from by simp [pm_set]]
  refine pm_callSN2 mi_X9_copyRow (ix := 55) (host := RX9) (kc2 := 0) (ks2 := 0) (As := [.ref 27, .ref 278]) (rest := []) (c_X9_copyRow (a := 27) (b := 278) (n := 30) (pm_set (pm_set μ 277 0 (μ.1 26 0)) 277 1 (μ.1 26 1)) rfl rfl (by decide)) cal_X9_copyRow (by decide +kernel) (by decide +kernel) (by decide +kernel) rfl rfl (Nat.le_of_ble_eq_true rfl) (by decide) (by decide) ?_
  rintro _ μ1 ⟨rfl, e1⟩
  show pm_V _ _ _ _ 27 _ [] _
  refine pm_bl [(.aload_n 1, 1, 1, 0, 0), (.getfield 22, 3, 4, 3, 0), (.aload_n 0, 1, 0, 0, 0), (.getfield 22, 3, 4, 3, 0)] (pc1 := 35) (lo1 := [some (.ref 277), some (.ref 26)]) (st1 := [.ref 279, .ref 28]) (μ1 := μ1) (vc := True) rfl (by decide +kernel) rfl trivial ?_
  refine pm_callSN2 mi_X9_copyRow (ix := 55) (host := RX9) (kc2 := 0) (ks2 := 0) (As := [.ref 28, .ref 279]) (rest := []) (c_X9_copyRow (a := 28) (b := 279) (n := 30) μ1 rfl rfl (by decide)) cal_X9_copyRow (by decide +kernel) (by decide +kernel) (by decide +kernel) rfl rfl (Nat.le_of_ble_eq_true rfl) (by decide) (by decide) ?_
  rintro _ μ2 ⟨rfl, e2⟩
  show pm_V _ _ _ _ 38 _ [] _
  refine pm_bl [(.aload_n 1, 1, 1, 0, 0), (.getfield 25, 3, 4, 4, 0), (.aload_n 0, 1, 0, 0, 0), (.getfield 25, 3, 4, 4, 0)] (pc1 := 46) (lo1 := [some (.ref 277), some (.ref 26)]) (st1 := [.ref 280, .ref 29]) (μ1 := μ2) (vc := True) rfl (by decide +kernel) rfl trivial ?_
  refine pm_callSN2 mi_X9_copyRow (ix := 55) (host := RX9) (kc2 := 0) (ks2 := 0) (As := [.ref 29, .ref 280]) (rest := []) (c_X9_copyRow (a := 29) (b := 280) (n := 30) μ2 rfl rfl (by decide)) cal_X9_copyRow (by decide +kernel) (by decide +kernel) (by decide +kernel) rfl rfl (Nat.le_of_ble_eq_true rfl) (by decide) (by decide) ?_
  rintro _ μ3 ⟨rfl, e3⟩
  show pm_V _ _ _ _ 49 _ [] _
  refine pm_bl [(.aload_n 1, 1, 1, 0, 0), (.getfield 28, 3, 4, 5, 0), (.aload_n 0, 1, 0, 0, 0), (.getfield 28, 3, 4, 5, 0)] (pc1 := 57) (lo1 := [some (.ref 277), some (.ref 26)]) (st1 := [.ref 281, .ref 30]) (μ1 := μ3) (vc := True) rfl (by decide +kernel) rfl trivial ?_
  refine pm_callSN2 mi_X9_copyRow (ix := 55) (host := RX9) (kc2 := 0) (ks2 := 0) (As := [.ref 30, .ref 281]) (rest := []) (c_X9_copyRow (a := 30) (b := 281) (n := 30) μ3 rfl rfl (by decide)) cal_X9_copyRow (by decide +kernel) (by decide +kernel) (by decide +kernel) rfl rfl (Nat.le_of_ble_eq_true rfl) (by decide) (by decide) ?_
  rintro _ μ4 ⟨rfl, e4⟩
  show pm_V _ _ _ _ 60 _ [] _
  refine pm_bl [(.aload_n 1, 1, 1, 0, 0), (.getfield 31, 3, 4, 6, 0), (.aload_n 0, 1, 0, 0, 0), (.getfield 31, 3, 4, 6, 0)] (pc1 := 68) (lo1 := [some (.ref 277), some (.ref 26)]) (st1 := [.ref 282, .ref 31]) (μ1 := μ4) (vc := True) rfl (by decide +kernel) rfl trivial ?_
  refine pm_callSN2 mi_X9_copyRow (ix := 55) (host := RX9) (kc2 := 0) (ks2 := 0) (As := [.ref 31, .ref 282]) (rest := []) (c_X9_copyRow (a := 31) (b := 282) (n := 30) μ4 rfl rfl (by decide)) cal_X9_copyRow (by decide +kernel) (by decide +kernel) (by decide +kernel) rfl rfl (Nat.le_of_ble_eq_true rfl) (by decide) (by decide) ?_
  rintro _ μ5 ⟨rfl, e5⟩
  show pm_V _ _ _ _ 71 _ [] _
  refine pm_bl [(.aload_n 1, 1, 1, 0, 0), (.getfield 34, 3, 4, 7, 0), (.aload_n 0, 1, 0, 0, 0), (.getfield 34, 3, 4, 7, 0)] (pc1 := 79) (lo1 := [some (.ref 277), some (.ref 26)]) (st1 := [.ref 283, .ref 32]) (μ1 := μ5) (vc := True) rfl (by decide +kernel) rfl trivial ?_
  refine pm_callSN2 mi_X9_copyRow (ix := 55) (host := RX9) (kc2 := 0) (ks2 := 0) (As := [.ref 32, .ref 283]) (rest := []) (c_X9_copyRow (a := 32) (b := 283) (n := 30) μ5 rfl rfl (by decide)) cal_X9_copyRow (by decide +kernel) (by decide +kernel) (by decide +kernel) rfl rfl (Nat.le_of_ble_eq_true rfl) (by decide) (by decide) ?_
  rintro _ μ6 ⟨rfl, e6⟩
  show pm_V _ _ _ _ 82 _ [] _
  refine pm_bl [(.aload_n 1, 1, 1, 0, 0), (.getfield 37, 3, 4, 8, 0), (.aload_n 0, 1, 0, 0, 0), (.getfield 37, 3, 4, 8, 0)] (pc1 := 90) (lo1 := [some (.ref 277), some (.ref 26)]) (st1 := [.ref 284, .ref 33]) (μ1 := μ6) (vc := True) rfl (by decide +kernel) rfl trivial ?_
  refine pm_callSN2 mi_X9_copyRow (ix := 55) (host := RX9) (kc2 := 0) (ks2 := 0) (As := [.ref 33, .ref 284]) (rest := []) (c_X9_copyRow (a := 33) (b := 284) (n := 30) μ6 rfl rfl (by decide)) cal_X9_copyRow (by decide +kernel) (by decide +kernel) (by decide +kernel) rfl rfl (Nat.le_of_ble_eq_true rfl) (by decide) (by decide) ?_
  rintro _ μ7 ⟨rfl, e7⟩
  show pm_V _ _ _ _ 93 _ [] _
  refine pm_bl [(.aload_n 1, 1, 1, 0, 0), (.getfield 40, 3, 4, 9, 0), (.aload_n 0, 1, 0, 0, 0), (.getfield 40, 3, 4, 9, 0)] (pc1 := 101) (lo1 := [some (.ref 277), some (.ref 26)]) (st1 := [.ref 285, .ref 34]) (μ1 := μ7) (vc := True) rfl (by decide +kernel) rfl trivial ?_
  refine pm_callSN2 mi_X9_copyRow (ix := 55) (host := RX9) (kc2 := 0) (ks2 := 0) (As := [.ref 34, .ref 285]) (rest := []) (c_X9_copyRow (a := 34) (b := 285) (n := 30) μ7 rfl rfl (by decide)) cal_X9_copyRow (by decide +kernel) (by decide +kernel) (by decide +kernel) rfl rfl (Nat.le_of_ble_eq_true rfl) (by decide) (by decide) ?_
  rintro _ μ8 ⟨rfl, e8⟩
  show pm_V _ _ _ _ 104 _ [] _
  refine pm_bl [(.aload_n 1, 1, 1, 0, 0), (.getfield 43, 3, 4, 10, 0), (.aload_n 0, 1, 0, 0, 0), (.getfield 43, 3, 4, 10, 0)] (pc1 := 112) (lo1 := [some (.ref 277), some (.ref 26)]) (st1 := [.ref 286, .ref 35]) (μ1 := μ8) (vc := True) rfl (by decide +kernel) rfl trivial ?_
  refine pm_callSN2 mi_X9_copyRow (ix := 55) (host := RX9) (kc2 := 0) (ks2 := 0) (As := [.ref 35, .ref 286]) (rest := []) (c_X9_copyRow (a := 35) (b := 286) (n := 30) μ8 rfl rfl (by decide)) cal_X9_copyRow (by decide +kernel) (by decide +kernel) (by decide +kernel) rfl rfl (Nat.le_of_ble_eq_true rfl) (by decide) (by decide) ?_
  rintro _ μ9 ⟨rfl, e9⟩
  show pm_V _ _ _ _ 115 _ [] _
  refine pm_bl [(.aload_n 1, 1, 1, 0, 0), (.getfield 46, 3, 4, 11, 0), (.aload_n 0, 1, 0, 0, 0), (.getfield 46, 3, 4, 11, 0)] (pc1 := 123) (lo1 := [some (.ref 277), some (.ref 26)]) (st1 := [.ref 287, .ref 36]) (μ1 := μ9) (vc := True) rfl (by decide +kernel) rfl trivial ?_
  refine pm_callSN2 mi_X9_copyRow (ix := 55) (host := RX9) (kc2 := 0) (ks2 := 0) (As := [.ref 36, .ref 287]) (rest := []) (c_X9_copyRow (a := 36) (b := 287) (n := 30) μ9 rfl rfl (by decide)) cal_X9_copyRow (by decide +kernel) (by decide +kernel) (by decide +kernel) rfl rfl (Nat.le_of_ble_eq_true rfl) (by decide) (by decide) ?_
  rintro _ μ10 ⟨rfl, e10⟩
  show pm_V _ _ _ _ 126 _ [] _
  refine pm_bl [(.aload_n 1, 1, 1, 0, 0), (.getfield 49, 3, 4, 12, 0), (.aload_n 0, 1, 0, 0, 0), (.getfield 49, 3, 4, 12, 0)] (pc1 := 134) (lo1 := [some (.ref 277), some (.ref 26)]) (st1 := [.ref 288, .ref 37]) (μ1 := μ10) (vc := True) rfl (by decide +kernel) rfl trivial ?_
  refine pm_callSN2 mi_X9_copyRow (ix := 55) (host := RX9) (kc2 := 0) (ks2 := 0) (As := [.ref 37, .ref 288]) (rest := []) (c_X9_copyRow (a := 37) (b := 288) (n := 30) μ10 rfl rfl (by decide)) cal_X9_copyRow (by decide +kernel) (by decide +kernel) (by decide +kernel) rfl rfl (Nat.le_of_ble_eq_true rfl) (by decide) (by decide) ?_
  rintro _ μ11 ⟨rfl, e11⟩
  show pm_V _ _ _ _ 137 _ [] _
  refine pm_bl [(.aload_n 1, 1, 1, 0, 0), (.getfield 52, 3, 4, 13, 0), (.aload_n 0, 1, 0, 0, 0), (.getfield 52, 3, 4, 13, 0)] (pc1 := 145) (lo1 := [some (.ref 277), some (.ref 26)]) (st1 := [.ref 289, .ref 38]) (μ1 := μ11) (vc := True) rfl (by decide +kernel) rfl trivial ?_
  refine pm_callSN2 mi_X9_copyRow (ix := 55) (host := RX9) (kc2 := 0) (ks2 := 0) (As := [.ref 38, .ref 289]) (rest := []) (c_X9_copyRow (a := 38) (b := 289) (n := 30) μ11 rfl rfl (by decide)) cal_X9_copyRow (by decide +kernel) (by decide +kernel) (by decide +kernel) rfl rfl (Nat.le_of_ble_eq_true rfl) (by decide) (by decide) ?_
  rintro _ μ12 ⟨rfl, e12⟩
  show pm_V _ _ _ _ 148 _ [] _
  exact pm_vret rfl (by decide) (by decide) (by decide +kernel) (by
    subst e1; subst e2; subst e3; subst e4; subst e5; subst e6; subst e7; subst e8; subst e9; subst e10; subst e11; subst e12
    refine ⟨rfl, rfl, fun i hi => by rw [pm_row_off (by omega), pm_row_off (by omega), pm_row_off (by omega), pm_row_off (by omega), pm_row_off (by omega), pm_row_off (by omega), pm_row_off (by omega), pm_row_off (by omega), pm_row_off (by omega), pm_row_off (by omega), pm_row_off (by omega), pm_row_off (by omega), pm_set_off (by omega), pm_set_off (by omega)], lr_Rl.mv (b := 1) (b2 := 252) hX hn (by simp only [Nat.reduceAdd]; rw [pm_row_off (by decide), pm_row_off (by decide), pm_row_off (by decide), pm_row_off (by decide), pm_row_off (by decide), pm_row_off (by decide), pm_row_off (by decide), pm_row_off (by decide), pm_row_off (by decide), pm_row_off (by decide), pm_row_off (by decide), pm_row_off (by decide), pm_set_miss (Or.inr (by decide)), pm_set_hit]) (by simp only [Nat.reduceAdd]; rw [pm_row_off (by decide), pm_row_off (by decide), pm_row_off (by decide), pm_row_off (by decide), pm_row_off (by decide), pm_row_off (by decide), pm_row_off (by decide), pm_row_off (by decide), pm_row_off (by decide), pm_row_off (by decide), pm_row_off (by decide), pm_row_off (by decide), pm_set_hit]) (fun k i h1 h2 h3 => ?_) (fun _ _ _ => rfl) rfl⟩
    rcases (show k = 26 ∨ k = 27 ∨ k = 28 ∨ k = 29 ∨ k = 30 ∨ k = 31 ∨ k = 32 ∨ k = 33 ∨ k = 34 ∨ k = 35 ∨ k = 36 ∨ k = 37 by omega) with rfl | rfl | rfl | rfl | rfl | rfl | rfl | rfl | rfl | rfl | rfl | rfl
    · simp only [Nat.reduceAdd]; rw [pm_row_off (by decide), pm_row_off (by decide), pm_row_off (by decide), pm_row_off (by decide), pm_row_off (by decide), pm_row_off (by decide), pm_row_off (by decide), pm_row_off (by decide), pm_row_off (by decide), pm_row_off (by decide), pm_row_off (by decide), pm_row_at]; unfold va_cpy; rw [if_pos (by omega), pm_set_off (by decide), pm_set_off (by decide), show 0 + (i - 0) = i from by omega]
    · simp only [Nat.reduceAdd]; rw [pm_row_off (by decide), pm_row_off (by decide), pm_row_off (by decide), pm_row_off (by decide), pm_row_off (by decide), pm_row_off (by decide), pm_row_off (by decide), pm_row_off (by decide), pm_row_off (by decide), pm_row_off (by decide), pm_row_at]; unfold va_cpy; rw [if_pos (by omega), pm_row_off (by decide), pm_set_off (by decide), pm_set_off (by decide), show 0 + (i - 0) = i from by omega]
    · simp only [Nat.reduceAdd]; rw [pm_row_off (by decide), pm_row_off (by decide), pm_row_off (by decide), pm_row_off (by decide), pm_row_off (by decide), pm_row_off (by decide), pm_row_off (by decide), pm_row_off (by decide), pm_row_off (by decide), pm_row_at]; unfold va_cpy; rw [if_pos (by omega), pm_row_off (by decide), pm_row_off (by decide), pm_set_off (by decide), pm_set_off (by decide), show 0 + (i - 0) = i from by omega]
    · simp only [Nat.reduceAdd]; rw [pm_row_off (by decide), pm_row_off (by decide), pm_row_off (by decide), pm_row_off (by decide), pm_row_off (by decide), pm_row_off (by decide), pm_row_off (by decide), pm_row_off (by decide), pm_row_at]; unfold va_cpy; rw [if_pos (by omega), pm_row_off (by decide), pm_row_off (by decide), pm_row_off (by decide), pm_set_off (by decide), pm_set_off (by decide), show 0 + (i - 0) = i from by omega]
    · simp only [Nat.reduceAdd]; rw [pm_row_off (by decide), pm_row_off (by decide), pm_row_off (by decide), pm_row_off (by decide), pm_row_off (by decide), pm_row_off (by decide), pm_row_off (by decide), pm_row_at]; unfold va_cpy; rw [if_pos (by omega), pm_row_off (by decide), pm_row_off (by decide), pm_row_off (by decide), pm_row_off (by decide), pm_set_off (by decide), pm_set_off (by decide), show 0 + (i - 0) = i from by omega]
    · simp only [Nat.reduceAdd]; rw [pm_row_off (by decide), pm_row_off (by decide), pm_row_off (by decide), pm_row_off (by decide), pm_row_off (by decide), pm_row_off (by decide), pm_row_at]; unfold va_cpy; rw [if_pos (by omega), pm_row_off (by decide), pm_row_off (by decide), pm_row_off (by decide), pm_row_off (by decide), pm_row_off (by decide), pm_set_off (by decide), pm_set_off (by decide), show 0 + (i - 0) = i from by omega]
    · simp only [Nat.reduceAdd]; rw [pm_row_off (by decide), pm_row_off (by decide), pm_row_off (by decide), pm_row_off (by decide), pm_row_off (by decide), pm_row_at]; unfold va_cpy; rw [if_pos (by omega), pm_row_off (by decide), pm_row_off (by decide), pm_row_off (by decide), pm_row_off (by decide), pm_row_off (by decide), pm_row_off (by decide), pm_set_off (by decide), pm_set_off (by decide), show 0 + (i - 0) = i from by omega]
    · simp only [Nat.reduceAdd]; rw [pm_row_off (by decide), pm_row_off (by decide), pm_row_off (by decide), pm_row_off (by decide), pm_row_at]; unfold va_cpy; rw [if_pos (by omega), pm_row_off (by decide), pm_row_off (by decide), pm_row_off (by decide), pm_row_off (by decide), pm_row_off (by decide), pm_row_off (by decide), pm_row_off (by decide), pm_set_off (by decide), pm_set_off (by decide), show 0 + (i - 0) = i from by omega]
    · simp only [Nat.reduceAdd]; rw [pm_row_off (by decide), pm_row_off (by decide), pm_row_off (by decide), pm_row_at]; unfold va_cpy; rw [if_pos (by omega), pm_row_off (by decide), pm_row_off (by decide), pm_row_off (by decide), pm_row_off (by decide), pm_row_off (by decide), pm_row_off (by decide), pm_row_off (by decide), pm_row_off (by decide), pm_set_off (by decide), pm_set_off (by decide), show 0 + (i - 0) = i from by omega]
    · simp only [Nat.reduceAdd]; rw [pm_row_off (by decide), pm_row_off (by decide), pm_row_at]; unfold va_cpy; rw [if_pos (by omega), pm_row_off (by decide), pm_row_off (by decide), pm_row_off (by decide), pm_row_off (by decide), pm_row_off (by decide), pm_row_off (by decide), pm_row_off (by decide), pm_row_off (by decide), pm_row_off (by decide), pm_set_off (by decide), pm_set_off (by decide), show 0 + (i - 0) = i from by omega]
    · simp only [Nat.reduceAdd]; rw [pm_row_off (by decide), pm_row_at]; unfold va_cpy; rw [if_pos (by omega), pm_row_off (by decide), pm_row_off (by decide), pm_row_off (by decide), pm_row_off (by decide), pm_row_off (by decide), pm_row_off (by decide), pm_row_off (by decide), pm_row_off (by decide), pm_row_off (by decide), pm_row_off (by decide), pm_set_off (by decide), pm_set_off (by decide), show 0 + (i - 0) = i from by omega]
    · simp only [Nat.reduceAdd]; rw [pm_row_at]; unfold va_cpy; rw [if_pos (by omega), pm_row_off (by decide), pm_row_off (by decide), pm_row_off (by decide), pm_row_off (by decide), pm_row_off (by decide), pm_row_off (by decide), pm_row_off (by decide), pm_row_off (by decide), pm_row_off (by decide), pm_row_off (by decide), pm_row_off (by decide), pm_set_off (by decide), pm_set_off (by decide), show 0 + (i - 0) = i from by omega])
set_option maxHeartbeats 4000000 in
set_option maxRecDepth 100000 in
theorem c_X5_copyFrom_252_1 {g : Nat → Int32} (μ : pm_Mm) (hR : lr_Rel μ.1 1 g) (hB : lr_B g) : pm_CT mi_X5_copyFrom [.ref 252, .ref 1] μ (fun v μ2 => v = none ∧ μ2.2 = μ.2 ∧ (∀ i, (i < 252 ∨ 290 < i) → μ2.1 i = μ.1 i) ∧ lr_Rel μ2.1 252 g) pm_NX := by
  refine pm_CT_of (lo := [some (.ref 252), some (.ref 1)]) (by decide +kernel) rfl rfl (by intro v hv; simp at hv; rcases hv with rfl | rfl <;> rfl) (Nat.le_of_ble_eq_true rfl) rfl ?_
  obtain ⟨hm1, hm3, hm2, hm4, hm5, hm6⟩ := id hB
  refine pm_bl [(.aload_n 0, 1, 0, 0, 0), (.getfield 12, 3, 5, 0, 0), (.aload_n 1, 1, 1, 0, 0), (.getfield 12, 3, 5, 0, 0)] (pc1 := 8) (lo1 := [some (.ref 252), some (.ref 1)]) (st1 := [.ref 2, .ref 253]) (μ1 := μ) (vc := True) rfl (by decide +kernel) rfl trivial ?_
  refine pm_callV2 mi_X3_copyFrom (ix := 61) (b := 253) (ci := 3) (kc2 := 0) (ks2 := 0) (As := [.ref 2]) (rest := []) (c_X3_copyFrom_252_1 μ hR.2.1 hm1) cal_X3_copyFrom lk5_61 (by decide +kernel) rfl (by decide +kernel) rfl rfl rfl rfl (Nat.le_of_ble_eq_true rfl) (by decide) (by decide) (fun _ _ h9 => h9.elim) ?_
  rintro _ μ1 ⟨rfl, x1, f1, r1⟩
  show pm_V _ _ _ _ 11 _ [] _
  refine pm_bl [(.aload_n 0, 1, 0, 0, 0), (.getfield 21, 3, 5, 1, 0), (.aload_n 1, 1, 1, 0, 0), (.getfield 21, 3, 5, 1, 0)] (pc1 := 19) (lo1 := [some (.ref 252), some (.ref 1)]) (st1 := [.ref 5, .ref 256]) (μ1 := μ1) (vc := True) rfl (by decide +kernel) rfl trivial ?_
  refine pm_callV2 mi_X6_copyFrom (ix := 65) (b := 256) (ci := 6) (kc2 := 0) (ks2 := 0) (As := [.ref 5]) (rest := []) (c_X6_copyFrom_252_1 μ1 (lr_Rp.st (b := 1) hR.2.2.1 hm3 (fun k h1 h2 => by rw [f1 _ (by omega)]) (fun _ _ _ => rfl)) hm3) cal_X6_copyFrom lk5_65 (by decide +kernel) rfl (by decide +kernel) rfl rfl rfl rfl (Nat.le_of_ble_eq_true rfl) (by decide) (by decide) (fun _ _ h9 => h9.elim) ?_
  rintro _ μ2 ⟨rfl, x2, f2, r2⟩
  show pm_V _ _ _ _ 22 _ [] _
  refine pm_bl [(.aload_n 0, 1, 0, 0, 0), (.getfield 28, 3, 5, 2, 0), (.aload_n 1, 1, 1, 0, 0), (.getfield 28, 3, 5, 2, 0)] (pc1 := 30) (lo1 := [some (.ref 252), some (.ref 1)]) (st1 := [.ref 10, .ref 261]) (μ1 := μ2) (vc := True) rfl (by decide +kernel) rfl trivial ?_
  refine pm_callV2 mi_X8_copyFrom (ix := 68) (b := 261) (ci := 8) (kc2 := 0) (ks2 := 0) (As := [.ref 10]) (rest := []) (c_X8_copyFrom_252_1 μ2 (lr_Rw.st (b := 1) hR.2.2.2.1 hm2 (fun k h1 h2 => by rw [f2 _ (by omega), f1 _ (by omega)]) (fun _ _ _ => rfl)) hm2) cal_X8_copyFrom lk5_68 (by decide +kernel) rfl (by decide +kernel) rfl rfl rfl rfl (Nat.le_of_ble_eq_true rfl) (by decide) (by decide) (fun _ _ h9 => h9.elim) ?_
  rintro _ μ3 ⟨rfl, x3, f3, r3⟩
  show pm_V _ _ _ _ 33 _ [] _
  refine pm_bl [(.aload_n 0, 1, 0, 0, 0), (.getfield 35, 3, 5, 3, 0), (.aload_n 1, 1, 1, 0, 0), (.getfield 35, 3, 5, 3, 0)] (pc1 := 41) (lo1 := [some (.ref 252), some (.ref 1)]) (st1 := [.ref 16, .ref 267]) (μ1 := μ3) (vc := True) rfl (by decide +kernel) rfl trivial ?_
  refine pm_callV2 mi_X7_copyFrom (ix := 71) (b := 267) (ci := 7) (kc2 := 0) (ks2 := 0) (As := [.ref 16]) (rest := []) (c_X7_copyFrom_252_1 μ3 (lr_Rr.st (b := 1) hR.2.2.2.2.1 hm4 (fun k h1 h2 => by rw [f3 _ (by omega), f2 _ (by omega), f1 _ (by omega)]) (fun _ _ _ => rfl)) hm4) cal_X7_copyFrom lk5_71 (by decide +kernel) rfl (by decide +kernel) rfl rfl rfl rfl (Nat.le_of_ble_eq_true rfl) (by decide) (by decide) (fun _ _ h9 => h9.elim) ?_
  rintro _ μ4 ⟨rfl, x4, f4, r4⟩
  show pm_V _ _ _ _ 44 _ [] _
  refine pm_bl [(.aload_n 0, 1, 0, 0, 0), (.getfield 42, 3, 5, 4, 0), (.aload_n 1, 1, 1, 0, 0), (.getfield 42, 3, 5, 4, 0)] (pc1 := 52) (lo1 := [some (.ref 252), some (.ref 1)]) (st1 := [.ref 22, .ref 273]) (μ1 := μ4) (vc := True) rfl (by decide +kernel) rfl trivial ?_
  refine pm_callV2 mi_X0_copyFrom (ix := 74) (b := 273) (ci := 0) (kc2 := 0) (ks2 := 0) (As := [.ref 22]) (rest := []) (c_X0_copyFrom_252_1 μ4 (lr_Ra.st (b := 1) hR.2.2.2.2.2.1 hm5 (fun k h1 h2 => by rw [f4 _ (by omega), f3 _ (by omega), f2 _ (by omega), f1 _ (by omega)]) (fun _ _ _ => rfl)) hm5) cal_X0_copyFrom lk5_74 (by decide +kernel) rfl (by decide +kernel) rfl rfl rfl rfl (Nat.le_of_ble_eq_true rfl) (by decide) (by decide) (fun _ _ h9 => h9.elim) ?_
  rintro _ μ5 ⟨rfl, x5, f5, r5⟩
  show pm_V _ _ _ _ 55 _ [] _
  refine pm_bl [(.aload_n 0, 1, 0, 0, 0), (.getfield 49, 3, 5, 5, 0), (.aload_n 1, 1, 1, 0, 0), (.getfield 49, 3, 5, 5, 0)] (pc1 := 63) (lo1 := [some (.ref 252), some (.ref 1)]) (st1 := [.ref 26, .ref 277]) (μ1 := μ5) (vc := True) rfl (by decide +kernel) rfl trivial ?_
  refine pm_callV2 mi_X4_copyFrom (ix := 77) (b := 277) (ci := 4) (kc2 := 0) (ks2 := 0) (As := [.ref 26]) (rest := []) (c_X4_copyFrom_252_1 μ5 (lr_Rl.st (b := 1) hR.2.2.2.2.2.2 hm6 (fun k h1 h2 => by rw [f5 _ (by omega), f4 _ (by omega), f3 _ (by omega), f2 _ (by omega), f1 _ (by omega)]) rfl (fun _ _ _ => rfl)) hm6) cal_X4_copyFrom lk5_77 (by decide +kernel) rfl (by decide +kernel) rfl rfl rfl rfl (Nat.le_of_ble_eq_true rfl) (by decide) (by decide) (fun _ _ h9 => h9.elim) ?_
  rintro _ μ6 ⟨rfl, x6, f6, r6⟩
  show pm_V _ _ _ _ 66 _ [] _
  refine pm_bl [(.aload_n 0, 1, 0, 0, 0), (.aload_n 1, 1, 1, 0, 0), (.getfield 53, 3, 5, 6, 0), (.putfield 53, 3, 5, 6, 0)] (pc1 := 74) (lo1 := [some (.ref 252), some (.ref 1)]) (st1 := []) (μ1 := pm_set μ6 252 6 (μ6.1 1 6)) (vc := True) rfl (by decide +kernel) rfl trivial ?_
  exact pm_vret rfl (by decide) (by decide) (by decide +kernel) (⟨rfl, (x6.trans (x5.trans (x4.trans (x3.trans (x2.trans x1))))), fun i hi => by rw [pm_set_off (by omega), f6 _ (by omega), f5 _ (by omega), f4 _ (by omega), f3 _ (by omega), f2 _ (by omega), f1 _ (by omega)], by rw [pm_set_hit, f6 _ (by omega), f5 _ (by omega), f4 _ (by omega), f3 _ (by omega), f2 _ (by omega), f1 _ (by omega)]; exact hR.1, lr_Rh.st (b := 252) r1 hm1 (fun k h1 h2 => by rw [pm_set_off (by omega), f6 _ (by omega), f5 _ (by omega), f4 _ (by omega), f3 _ (by omega), f2 _ (by omega)]) (fun _ _ _ => rfl), lr_Rp.st (b := 252) r2 hm3 (fun k h1 h2 => by rw [pm_set_off (by omega), f6 _ (by omega), f5 _ (by omega), f4 _ (by omega), f3 _ (by omega)]) (fun _ _ _ => rfl), lr_Rw.st (b := 252) r3 hm2 (fun k h1 h2 => by rw [pm_set_off (by omega), f6 _ (by omega), f5 _ (by omega), f4 _ (by omega)]) (fun _ _ _ => rfl), lr_Rr.st (b := 252) r4 hm4 (fun k h1 h2 => by rw [pm_set_off (by omega), f6 _ (by omega), f5 _ (by omega)]) (fun _ _ _ => rfl), lr_Ra.st (b := 252) r5 hm5 (fun k h1 h2 => by rw [pm_set_off (by omega), f6 _ (by omega)]) (fun _ _ _ => rfl), lr_Rl.st (b := 252) r6 hm6 (fun k h1 h2 => by rw [pm_set_off (by omega)]) rfl (fun _ _ _ => rfl)⟩)
set_option maxHeartbeats 4000000 in
set_option maxRecDepth 100000 in
theorem c_X3_copyFrom_291_1 {g : Nat → Int32} (μ : pm_Mm) (hX : lr_Rh μ.1 1 g) (hn : lr_n g 2 ≤ 16) : pm_CT mi_X3_copyFrom [.ref 292, .ref 2] μ (fun v μ2 => v = none ∧ μ2.2 = μ.2 ∧ (∀ i, (i < 292 ∨ 294 < i) → μ2.1 i = μ.1 i) ∧ lr_Rh μ2.1 291 g) pm_NX := by
  refine pm_CT_of (lo := [some (.ref 292), some (.ref 2)]) (by decide +kernel) rfl rfl (by intro v hv; simp at hv; rcases hv with rfl | rfl <;> rfl) (Nat.le_of_ble_eq_true rfl) rfl ?_
  refine pm_bl [(.aload_n 0, 1, 0, 0, 0), (.aload_n 1, 1, 1, 0, 0), (.getfield 9, 3, 3, 0, 0), (.putfield 9, 3, 3, 0, 0), (.aload_n 1, 1, 1, 0, 0), (.getfield 15, 3, 3, 1, 0), (.aload_n 0, 1, 0, 0, 0), (.getfield 15, 3, 3, 1, 0)] (pc1 := 16) (lo1 := [some (.ref 292), some (.ref 2)]) (st1 := [.ref 293, .ref 3]) (μ1 := pm_set μ 292 0 (μ.1 2 0)) (vc := True) rfl (by decide +kernel) rfl trivial ?_
  refine pm_callSN2 mi_X9_copyRow (ix := 22) (host := RX9) (kc2 := 0) (ks2 := 0) (As := [.ref 3, .ref 293]) (rest := []) (c_X9_copyRow (a := 3) (b := 293) (n := 16) (pm_set μ 292 0 (μ.1 2 0)) rfl rfl (by decide)) cal_X9_copyRow (by decide +kernel) (by decide +kernel) (by decide +kernel) rfl rfl (Nat.le_of_ble_eq_true rfl) (by decide) (by decide) ?_
  rintro _ μ1 ⟨rfl, e1⟩
  show pm_V _ _ _ _ 19 _ [] _
  refine pm_bl [(.aload_n 1, 1, 1, 0, 0), (.getfield 19, 3, 3, 2, 0), (.aload_n 0, 1, 0, 0, 0), (.getfield 19, 3, 3, 2, 0)] (pc1 := 27) (lo1 := [some (.ref 292), some (.ref 2)]) (st1 := [.ref 294, .ref 4]) (μ1 := μ1) (vc := True) rfl (by decide +kernel) rfl trivial ?_
  refine pm_callSN2 mi_X9_copyRow (ix := 22) (host := RX9) (kc2 := 0) (ks2 := 0) (As := [.ref 4, .ref 294]) (rest := []) (c_X9_copyRow (a := 4) (b := 294) (n := 16) μ1 rfl rfl (by decide)) cal_X9_copyRow (by decide +kernel) (by decide +kernel) (by decide +kernel) rfl rfl (Nat.le_of_ble_eq_true rfl) (by decide) (by decide) ?_
  rintro _ μ2 ⟨rfl, e2⟩
  show pm_V _ _ _ _ 30 _ [] _
  exact pm_vret rfl (by decide) (by decide) (by decide +kernel) (by
    subst e1; subst e2
    refine ⟨rfl, rfl, fun i hi => by rw [pm_row_off (by omega), pm_row_off (by omega), pm_set_off (by omega)], lr_Rh.mv (b := 1) (b2 := 291) hX hn (by simp only [Nat.reduceAdd]; rw [pm_row_off (by decide), pm_row_off (by decide), pm_set_hit]) (fun k i h1 h2 h3 => ?_) (fun _ _ _ => rfl)⟩
    rcases (show k = 2 ∨ k = 3 by omega) with rfl | rfl
    · simp only [Nat.reduceAdd]; rw [pm_row_off (by decide), pm_row_at]; unfold va_cpy; rw [if_pos (by omega), pm_set_off (by decide), show 0 + (i - 0) = i from by omega]
    · simp only [Nat.reduceAdd]; rw [pm_row_at]; unfold va_cpy; rw [if_pos (by omega), pm_row_off (by decide), pm_set_off (by decide), show 0 + (i - 0) = i from by omega])
set_option maxHeartbeats 4000000 in
set_option maxRecDepth 100000 in
theorem c_X6_copyFrom_291_1 {g : Nat → Int32} (μ : pm_Mm) (hX : lr_Rp μ.1 1 g) (hn : lr_n g 35 ≤ 20) : pm_CT mi_X6_copyFrom [.ref 295, .ref 5] μ (fun v μ2 => v = none ∧ μ2.2 = μ.2 ∧ (∀ i, (i < 295 ∨ 299 < i) → μ2.1 i = μ.1 i) ∧ lr_Rp μ2.1 291 g) pm_NX := by
  refine pm_CT_of (lo := [some (.ref 295), some (.ref 5)]) (by decide +kernel) rfl rfl (by intro v hv; simp at hv; rcases hv with rfl | rfl <;> rfl) (Nat.le_of_ble_eq_true rfl) rfl ?_
  refine pm_bl [(.aload_n 0, 1, 0, 0, 0), (.aload_n 1, 1, 1, 0, 0), (.getfield 9, 3, 6, 0, 0), (.putfield 9, 3, 6, 0, 0), (.aload_n 1, 1, 1, 0, 0), (.getfield 15, 3, 6, 1, 0), (.aload_n 0, 1, 0, 0, 0), (.getfield 15, 3, 6, 1, 0)] (pc1 := 16) (lo1 := [some (.ref 295), some (.ref 5)]) (st1 := [.ref 296, .ref 6]) (μ1 := pm_set μ 295 0 (μ.1 5 0)) (vc := True) rfl (by decide +kernel) rfl trivial ?_
  refine pm_callSN2 mi_X9_copyRow (ix := 28) (host := RX9) (kc2 := 0) (ks2 := 0) (As := [.ref 6, .ref 296]) (rest := []) (c_X9_copyRow (a := 6) (b := 296) (n := 20) (pm_set μ 295 0 (μ.1 5 0)) rfl rfl (by decide)) cal_X9_copyRow (by decide +kernel) (by decide +kernel) (by decide +kernel) rfl rfl (Nat.le_of_ble_eq_true rfl) (by decide) (by decide) ?_
  rintro _ μ1 ⟨rfl, e1⟩
  show pm_V _ _ _ _ 19 _ [] _
  refine pm_bl [(.aload_n 1, 1, 1, 0, 0), (.getfield 19, 3, 6, 2, 0), (.aload_n 0, 1, 0, 0, 0), (.getfield 19, 3, 6, 2, 0)] (pc1 := 27) (lo1 := [some (.ref 295), some (.ref 5)]) (st1 := [.ref 297, .ref 7]) (μ1 := μ1) (vc := True) rfl (by decide +kernel) rfl trivial ?_
  refine pm_callSN2 mi_X9_copyRow (ix := 28) (host := RX9) (kc2 := 0) (ks2 := 0) (As := [.ref 7, .ref 297]) (rest := []) (c_X9_copyRow (a := 7) (b := 297) (n := 20) μ1 rfl rfl (by decide)) cal_X9_copyRow (by decide +kernel) (by decide +kernel) (by decide +kernel) rfl rfl (Nat.le_of_ble_eq_true rfl) (by decide) (by decide) ?_
  rintro _ μ2 ⟨rfl, e2⟩
  show pm_V _ _ _ _ 30 _ [] _
  refine pm_bl [(.aload_n 1, 1, 1, 0, 0), (.getfield 22, 3, 6, 3, 0), (.aload_n 0, 1, 0, 0, 0), (.getfield 22, 3, 6, 3, 0)] (pc1 := 38) (lo1 := [some (.ref 295), some (.ref 5)]) (st1 := [.ref 298, .ref 8]) (μ1 := μ2) (vc := True) rfl (by decide +kernel) rfl trivial ?_
  refine pm_callSN2 mi_X9_copyRow (ix := 28) (host := RX9) (kc2 := 0) (ks2 := 0) (As := [.ref 8, .ref 298]) (rest := []) (c_X9_copyRow (a := 8) (b := 298) (n := 20) μ2 rfl rfl (by decide)) cal_X9_copyRow (by decide +kernel) (by decide +kernel) (by decide +kernel) rfl rfl (Nat.le_of_ble_eq_true rfl) (by decide) (by decide) ?_
  rintro _ μ3 ⟨rfl, e3⟩
  show pm_V _ _ _ _ 41 _ [] _
  refine pm_bl [(.aload_n 1, 1, 1, 0, 0), (.getfield 25, 3, 6, 4, 0), (.aload_n 0, 1, 0, 0, 0), (.getfield 25, 3, 6, 4, 0)] (pc1 := 49) (lo1 := [some (.ref 295), some (.ref 5)]) (st1 := [.ref 299, .ref 9]) (μ1 := μ3) (vc := True) rfl (by decide +kernel) rfl trivial ?_
  refine pm_callSN2 mi_X9_copyRow (ix := 28) (host := RX9) (kc2 := 0) (ks2 := 0) (As := [.ref 9, .ref 299]) (rest := []) (c_X9_copyRow (a := 9) (b := 299) (n := 20) μ3 rfl rfl (by decide)) cal_X9_copyRow (by decide +kernel) (by decide +kernel) (by decide +kernel) rfl rfl (Nat.le_of_ble_eq_true rfl) (by decide) (by decide) ?_
  rintro _ μ4 ⟨rfl, e4⟩
  show pm_V _ _ _ _ 52 _ [] _
  exact pm_vret rfl (by decide) (by decide) (by decide +kernel) (by
    subst e1; subst e2; subst e3; subst e4
    refine ⟨rfl, rfl, fun i hi => by rw [pm_row_off (by omega), pm_row_off (by omega), pm_row_off (by omega), pm_row_off (by omega), pm_set_off (by omega)], lr_Rp.mv (b := 1) (b2 := 291) hX hn (by simp only [Nat.reduceAdd]; rw [pm_row_off (by decide), pm_row_off (by decide), pm_row_off (by decide), pm_row_off (by decide), pm_set_hit]) (fun k i h1 h2 h3 => ?_) (fun _ _ _ => rfl)⟩
    rcases (show k = 5 ∨ k = 6 ∨ k = 7 ∨ k = 8 by omega) with rfl | rfl | rfl | rfl
    · simp only [Nat.reduceAdd]; rw [pm_row_off (by decide), pm_row_off (by decide), pm_row_off (by decide), pm_row_at]; unfold va_cpy; rw [if_pos (by omega), pm_set_off (by decide), show 0 + (i - 0) = i from by omega]
    · simp only [Nat.reduceAdd]; rw [pm_row_off (by decide), pm_row_off (by decide), pm_row_at]; unfold va_cpy; rw [if_pos (by omega), pm_row_off (by decide), pm_set_off (by decide), show 0 + (i - 0) = i from by omega]
    · simp only [Nat.reduceAdd]; rw [pm_row_off (by decide), pm_row_at]; unfold va_cpy; rw [if_pos (by omega), pm_row_off (by decide), pm_row_off (by decide), pm_set_off (by decide), show 0 + (i - 0) = i from by omega]
    · simp only [Nat.reduceAdd]; rw [pm_row_at]; unfold va_cpy; rw [if_pos (by omega), pm_row_off (by decide), pm_row_off (by decide), pm_row_off (by decide), pm_set_off (by decide), show 0 + (i - 0) = i from by omega])
set_option maxHeartbeats 4000000 in
set_option maxRecDepth 100000 in
theorem c_X8_copyFrom_291_1 {g : Nat → Int32} (μ : pm_Mm) (hX : lr_Rw μ.1 1 g) (hn : lr_n g 116 ≤ 10) : pm_CT mi_X8_copyFrom [.ref 300, .ref 10] μ (fun v μ2 => v = none ∧ μ2.2 = μ.2 ∧ (∀ i, (i < 300 ∨ 305 < i) → μ2.1 i = μ.1 i) ∧ lr_Rw μ2.1 291 g) pm_NX := by
  refine pm_CT_of (lo := [some (.ref 300), some (.ref 10)]) (by decide +kernel) rfl rfl (by intro v hv; simp at hv; rcases hv with rfl | rfl <;> rfl) (Nat.le_of_ble_eq_true rfl) rfl ?_
  refine pm_bl [(.aload_n 0, 1, 0, 0, 0), (.aload_n 1, 1, 1, 0, 0), (.getfield 9, 3, 8, 0, 0), (.putfield 9, 3, 8, 0, 0), (.aload_n 1, 1, 1, 0, 0), (.getfield 15, 3, 8, 1, 0), (.aload_n 0, 1, 0, 0, 0), (.getfield 15, 3, 8, 1, 0)] (pc1 := 16) (lo1 := [some (.ref 300), some (.ref 10)]) (st1 := [.ref 301, .ref 11]) (μ1 := pm_set μ 300 0 (μ.1 10 0)) (vc := True) rfl (by decide +kernel) rfl trivial ?_
  refine pm_callSN2 mi_X9_copyRow (ix := 31) (host := RX9) (kc2 := 0) (ks2 := 0) (As := [.ref 11, .ref 301]) (rest := []) (c_X9_copyRow (a := 11) (b := 301) (n := 10) (pm_set μ 300 0 (μ.1 10 0)) rfl rfl (by decide)) cal_X9_copyRow (by decide +kernel) (by decide +kernel) (by decide +kernel) rfl rfl (Nat.le_of_ble_eq_true rfl) (by decide) (by decide) ?_
  rintro _ μ1 ⟨rfl, e1⟩
  show pm_V _ _ _ _ 19 _ [] _
  refine pm_bl [(.aload_n 1, 1, 1, 0, 0), (.getfield 19, 3, 8, 2, 0), (.aload_n 0, 1, 0, 0, 0), (.getfield 19, 3, 8, 2, 0)] (pc1 := 27) (lo1 := [some (.ref 300), some (.ref 10)]) (st1 := [.ref 302, .ref 12]) (μ1 := μ1) (vc := True) rfl (by decide +kernel) rfl trivial ?_
  refine pm_callSN2 mi_X9_copyRow (ix := 31) (host := RX9) (kc2 := 0) (ks2 := 0) (As := [.ref 12, .ref 302]) (rest := []) (c_X9_copyRow (a := 12) (b := 302) (n := 10) μ1 rfl rfl (by decide)) cal_X9_copyRow (by decide +kernel) (by decide +kernel) (by decide +kernel) rfl rfl (Nat.le_of_ble_eq_true rfl) (by decide) (by decide) ?_
  rintro _ μ2 ⟨rfl, e2⟩
  show pm_V _ _ _ _ 30 _ [] _
  refine pm_bl [(.aload_n 1, 1, 1, 0, 0), (.getfield 22, 3, 8, 3, 0), (.aload_n 0, 1, 0, 0, 0), (.getfield 22, 3, 8, 3, 0)] (pc1 := 38) (lo1 := [some (.ref 300), some (.ref 10)]) (st1 := [.ref 303, .ref 13]) (μ1 := μ2) (vc := True) rfl (by decide +kernel) rfl trivial ?_
  refine pm_callSN2 mi_X9_copyRow (ix := 31) (host := RX9) (kc2 := 0) (ks2 := 0) (As := [.ref 13, .ref 303]) (rest := []) (c_X9_copyRow (a := 13) (b := 303) (n := 10) μ2 rfl rfl (by decide)) cal_X9_copyRow (by decide +kernel) (by decide +kernel) (by decide +kernel) rfl rfl (Nat.le_of_ble_eq_true rfl) (by decide) (by decide) ?_
  rintro _ μ3 ⟨rfl, e3⟩
  show pm_V _ _ _ _ 41 _ [] _
  refine pm_bl [(.aload_n 1, 1, 1, 0, 0), (.getfield 25, 3, 8, 4, 0), (.aload_n 0, 1, 0, 0, 0), (.getfield 25, 3, 8, 4, 0)] (pc1 := 49) (lo1 := [some (.ref 300), some (.ref 10)]) (st1 := [.ref 304, .ref 14]) (μ1 := μ3) (vc := True) rfl (by decide +kernel) rfl trivial ?_
  refine pm_callSN2 mi_X9_copyRow (ix := 31) (host := RX9) (kc2 := 0) (ks2 := 0) (As := [.ref 14, .ref 304]) (rest := []) (c_X9_copyRow (a := 14) (b := 304) (n := 10) μ3 rfl rfl (by decide)) cal_X9_copyRow (by decide +kernel) (by decide +kernel) (by decide +kernel) rfl rfl (Nat.le_of_ble_eq_true rfl) (by decide) (by decide) ?_
  rintro _ μ4 ⟨rfl, e4⟩
  show pm_V _ _ _ _ 52 _ [] _
  refine pm_bl [(.aload_n 1, 1, 1, 0, 0), (.getfield 28, 3, 8, 5, 0), (.aload_n 0, 1, 0, 0, 0), (.getfield 28, 3, 8, 5, 0)] (pc1 := 60) (lo1 := [some (.ref 300), some (.ref 10)]) (st1 := [.ref 305, .ref 15]) (μ1 := μ4) (vc := True) rfl (by decide +kernel) rfl trivial ?_
  refine pm_callSN2 mi_X9_copyRow (ix := 31) (host := RX9) (kc2 := 0) (ks2 := 0) (As := [.ref 15, .ref 305]) (rest := []) (c_X9_copyRow (a := 15) (b := 305) (n := 10) μ4 rfl rfl (by decide)) cal_X9_copyRow (by decide +kernel) (by decide +kernel) (by decide +kernel) rfl rfl (Nat.le_of_ble_eq_true rfl) (by decide) (by decide) ?_
  rintro _ μ5 ⟨rfl, e5⟩
  show pm_V _ _ _ _ 63 _ [] _
  exact pm_vret rfl (by decide) (by decide) (by decide +kernel) (by
    subst e1; subst e2; subst e3; subst e4; subst e5
    refine ⟨rfl, rfl, fun i hi => by rw [pm_row_off (by omega), pm_row_off (by omega), pm_row_off (by omega), pm_row_off (by omega), pm_row_off (by omega), pm_set_off (by omega)], lr_Rw.mv (b := 1) (b2 := 291) hX hn (by simp only [Nat.reduceAdd]; rw [pm_row_off (by decide), pm_row_off (by decide), pm_row_off (by decide), pm_row_off (by decide), pm_row_off (by decide), pm_set_hit]) (fun k i h1 h2 h3 => ?_) (fun _ _ _ => rfl)⟩
    rcases (show k = 10 ∨ k = 11 ∨ k = 12 ∨ k = 13 ∨ k = 14 by omega) with rfl | rfl | rfl | rfl | rfl
    · simp only [Nat.reduceAdd]; rw [pm_row_off (by decide), pm_row_off (by decide), pm_row_off (by decide), pm_row_off (by decide), pm_row_at]; unfold va_cpy; rw [if_pos (by omega), pm_set_off (by decide), show 0 + (i - 0) = i from by omega]
    · simp only [Nat.reduceAdd]; rw [pm_row_off (by decide), pm_row_off (by decide), pm_row_off (by decide), pm_row_at]; unfold va_cpy; rw [if_pos (by omega), pm_row_off (by decide), pm_set_off (by decide), show 0 + (i - 0) = i from by omega]
    · simp only [Nat.reduceAdd]; rw [pm_row_off (by decide), pm_row_off (by decide), pm_row_at]; unfold va_cpy; rw [if_pos (by omega), pm_row_off (by decide), pm_row_off (by decide), pm_set_off (by decide), show 0 + (i - 0) = i from by omega]
    · simp only [Nat.reduceAdd]; rw [pm_row_off (by decide), pm_row_at]; unfold va_cpy; rw [if_pos (by omega), pm_row_off (by decide), pm_row_off (by decide), pm_row_off (by decide), pm_set_off (by decide), show 0 + (i - 0) = i from by omega]
    · simp only [Nat.reduceAdd]; rw [pm_row_at]; unfold va_cpy; rw [if_pos (by omega), pm_row_off (by decide), pm_row_off (by decide), pm_row_off (by decide), pm_row_off (by decide), pm_set_off (by decide), show 0 + (i - 0) = i from by omega])
set_option maxHeartbeats 4000000 in
set_option maxRecDepth 100000 in
theorem c_X7_copyFrom_291_1 {g : Nat → Int32} (μ : pm_Mm) (hX : lr_Rr μ.1 1 g) (hn : lr_n g 167 ≤ 12) : pm_CT mi_X7_copyFrom [.ref 306, .ref 16] μ (fun v μ2 => v = none ∧ μ2.2 = μ.2 ∧ (∀ i, (i < 306 ∨ 311 < i) → μ2.1 i = μ.1 i) ∧ lr_Rr μ2.1 291 g) pm_NX := by
  refine pm_CT_of (lo := [some (.ref 306), some (.ref 16)]) (by decide +kernel) rfl rfl (by intro v hv; simp at hv; rcases hv with rfl | rfl <;> rfl) (Nat.le_of_ble_eq_true rfl) rfl ?_
  refine pm_bl [(.aload_n 0, 1, 0, 0, 0), (.aload_n 1, 1, 1, 0, 0), (.getfield 9, 3, 7, 0, 0), (.putfield 9, 3, 7, 0, 0), (.aload_n 1, 1, 1, 0, 0), (.getfield 15, 3, 7, 1, 0), (.aload_n 0, 1, 0, 0, 0), (.getfield 15, 3, 7, 1, 0)] (pc1 := 16) (lo1 := [some (.ref 306), some (.ref 16)]) (st1 := [.ref 307, .ref 17]) (μ1 := pm_set μ 306 0 (μ.1 16 0)) (vc := True) rfl (by decide +kernel) rfl trivial ?_
  refine pm_callSN2 mi_X9_copyRow (ix := 31) (host := RX9) (kc2 := 0) (ks2 := 0) (As := [.ref 17, .ref 307]) (rest := []) (c_X9_copyRow (a := 17) (b := 307) (n := 12) (pm_set μ 306 0 (μ.1 16 0)) rfl rfl (by decide)) cal_X9_copyRow (by decide +kernel) (by decide +kernel) (by decide +kernel) rfl rfl (Nat.le_of_ble_eq_true rfl) (by decide) (by decide) ?_
  rintro _ μ1 ⟨rfl, e1⟩
  show pm_V _ _ _ _ 19 _ [] _
  refine pm_bl [(.aload_n 1, 1, 1, 0, 0), (.getfield 19, 3, 7, 2, 0), (.aload_n 0, 1, 0, 0, 0), (.getfield 19, 3, 7, 2, 0)] (pc1 := 27) (lo1 := [some (.ref 306), some (.ref 16)]) (st1 := [.ref 308, .ref 18]) (μ1 := μ1) (vc := True) rfl (by decide +kernel) rfl trivial ?_
  refine pm_callSN2 mi_X9_copyRow (ix := 31) (host := RX9) (kc2 := 0) (ks2 := 0) (As := [.ref 18, .ref 308]) (rest := []) (c_X9_copyRow (a := 18) (b := 308) (n := 12) μ1 rfl rfl (by decide)) cal_X9_copyRow (by decide +kernel) (by decide +kernel) (by decide +kernel) rfl rfl (Nat.le_of_ble_eq_true rfl) (by decide) (by decide) ?_
  rintro _ μ2 ⟨rfl, e2⟩
  show pm_V _ _ _ _ 30 _ [] _
  refine pm_bl [(.aload_n 1, 1, 1, 0, 0), (.getfield 22, 3, 7, 3, 0), (.aload_n 0, 1, 0, 0, 0), (.getfield 22, 3, 7, 3, 0)] (pc1 := 38) (lo1 := [some (.ref 306), some (.ref 16)]) (st1 := [.ref 309, .ref 19]) (μ1 := μ2) (vc := True) rfl (by decide +kernel) rfl trivial ?_
  refine pm_callSN2 mi_X9_copyRow (ix := 31) (host := RX9) (kc2 := 0) (ks2 := 0) (As := [.ref 19, .ref 309]) (rest := []) (c_X9_copyRow (a := 19) (b := 309) (n := 12) μ2 rfl rfl (by decide)) cal_X9_copyRow (by decide +kernel) (by decide +kernel) (by decide +kernel) rfl rfl (Nat.le_of_ble_eq_true rfl) (by decide) (by decide) ?_
  rintro _ μ3 ⟨rfl, e3⟩
  show pm_V _ _ _ _ 41 _ [] _
  refine pm_bl [(.aload_n 1, 1, 1, 0, 0), (.getfield 25, 3, 7, 4, 0), (.aload_n 0, 1, 0, 0, 0), (.getfield 25, 3, 7, 4, 0)] (pc1 := 49) (lo1 := [some (.ref 306), some (.ref 16)]) (st1 := [.ref 310, .ref 20]) (μ1 := μ3) (vc := True) rfl (by decide +kernel) rfl trivial ?_
  refine pm_callSN2 mi_X9_copyRow (ix := 31) (host := RX9) (kc2 := 0) (ks2 := 0) (As := [.ref 20, .ref 310]) (rest := []) (c_X9_copyRow (a := 20) (b := 310) (n := 12) μ3 rfl rfl (by decide)) cal_X9_copyRow (by decide +kernel) (by decide +kernel) (by decide +kernel) rfl rfl (Nat.le_of_ble_eq_true rfl) (by decide) (by decide) ?_
  rintro _ μ4 ⟨rfl, e4⟩
  show pm_V _ _ _ _ 52 _ [] _
  refine pm_bl [(.aload_n 1, 1, 1, 0, 0), (.getfield 28, 3, 7, 5, 0), (.aload_n 0, 1, 0, 0, 0), (.getfield 28, 3, 7, 5, 0)] (pc1 := 60) (lo1 := [some (.ref 306), some (.ref 16)]) (st1 := [.ref 311, .ref 21]) (μ1 := μ4) (vc := True) rfl (by decide +kernel) rfl trivial ?_
  refine pm_callSN2 mi_X9_copyRow (ix := 31) (host := RX9) (kc2 := 0) (ks2 := 0) (As := [.ref 21, .ref 311]) (rest := []) (c_X9_copyRow (a := 21) (b := 311) (n := 12) μ4 rfl rfl (by decide)) cal_X9_copyRow (by decide +kernel) (by decide +kernel) (by decide +kernel) rfl rfl (Nat.le_of_ble_eq_true rfl) (by decide) (by decide) ?_
  rintro _ μ5 ⟨rfl, e5⟩
  show pm_V _ _ _ _ 63 _ [] _
  exact pm_vret rfl (by decide) (by decide) (by decide +kernel) (by
    subst e1; subst e2; subst e3; subst e4; subst e5
    refine ⟨rfl, rfl, fun i hi => by rw [pm_row_off (by omega), pm_row_off (by omega), pm_row_off (by omega), pm_row_off (by omega), pm_row_off (by omega), pm_set_off (by omega)], lr_Rr.mv (b := 1) (b2 := 291) hX hn (by simp only [Nat.reduceAdd]; rw [pm_row_off (by decide), pm_row_off (by decide), pm_row_off (by decide), pm_row_off (by decide), pm_row_off (by decide), pm_set_hit]) (fun k i h1 h2 h3 => ?_) (fun _ _ _ => rfl)⟩
    rcases (show k = 16 ∨ k = 17 ∨ k = 18 ∨ k = 19 ∨ k = 20 by omega) with rfl | rfl | rfl | rfl | rfl
    · simp only [Nat.reduceAdd]; rw [pm_row_off (by decide), pm_row_off (by decide), pm_row_off (by decide), pm_row_off (by decide), pm_row_at]; unfold va_cpy; rw [if_pos (by omega), pm_set_off (by decide), show 0 + (i - 0) = i from by omega]
    · simp only [Nat.reduceAdd]; rw [pm_row_off (by decide), pm_row_off (by decide), pm_row_off (by decide), pm_row_at]; unfold va_cpy; rw [if_pos (by omega), pm_row_off (by decide), pm_set_off (by decide), show 0 + (i - 0) = i from by omega]
    · simp only [Nat.reduceAdd]; rw [pm_row_off (by decide), pm_row_off (by decide), pm_row_at]; unfold va_cpy; rw [if_pos (by omega), pm_row_off (by decide), pm_row_off (by decide), pm_set_off (by decide), show 0 + (i - 0) = i from by omega]
    · simp only [Nat.reduceAdd]; rw [pm_row_off (by decide), pm_row_at]; unfold va_cpy; rw [if_pos (by omega), pm_row_off (by decide), pm_row_off (by decide), pm_row_off (by decide), pm_set_off (by decide), show 0 + (i - 0) = i from by omega]
    · simp only [Nat.reduceAdd]; rw [pm_row_at]; unfold va_cpy; rw [if_pos (by omega), pm_row_off (by decide), pm_row_off (by decide), pm_row_off (by decide), pm_row_off (by decide), pm_set_off (by decide), show 0 + (i - 0) = i from by omega])
set_option maxHeartbeats 4000000 in
set_option maxRecDepth 100000 in
theorem c_X0_copyFrom_291_1 {g : Nat → Int32} (μ : pm_Mm) (hX : lr_Ra μ.1 1 g) (hn : lr_n g 228 ≤ 20) : pm_CT mi_X0_copyFrom [.ref 312, .ref 22] μ (fun v μ2 => v = none ∧ μ2.2 = μ.2 ∧ (∀ i, (i < 312 ∨ 315 < i) → μ2.1 i = μ.1 i) ∧ lr_Ra μ2.1 291 g) pm_NX := by
  refine pm_CT_of (lo := [some (.ref 312), some (.ref 22)]) (by decide +kernel) rfl rfl (by intro v hv; simp at hv; rcases hv with rfl | rfl <;> rfl) (Nat.le_of_ble_eq_true rfl) rfl ?_
  refine pm_bl [(.aload_n 0, 1, 0, 0, 0), (.aload_n 1, 1, 1, 0, 0), (.getfield 9, 3, 0, 0, 0), (.putfield 9, 3, 0, 0, 0), (.aload_n 1, 1, 1, 0, 0), (.getfield 15, 3, 0, 1, 0), (.aload_n 0, 1, 0, 0, 0), (.getfield 15, 3, 0, 1, 0)] (pc1 := 16) (lo1 := [some (.ref 312), some (.ref 22)]) (st1 := [.ref 313, .ref 23]) (μ1 := pm_set μ 312 0 (μ.1 22 0)) (vc := True) rfl (by decide +kernel) rfl trivial ?_
  refine pm_callSN2 mi_X9_copyRow (ix := 25) (host := RX9) (kc2 := 0) (ks2 := 0) (As := [.ref 23, .ref 313]) (rest := []) (c_X9_copyRow (a := 23) (b := 313) (n := 20) (pm_set μ 312 0 (μ.1 22 0)) rfl rfl (by decide)) cal_X9_copyRow (by decide +kernel) (by decide +kernel) (by decide +kernel) rfl rfl (Nat.le_of_ble_eq_true rfl) (by decide) (by decide) ?_
  rintro _ μ1 ⟨rfl, e1⟩
  show pm_V _ _ _ _ 19 _ [] _
  refine pm_bl [(.aload_n 1, 1, 1, 0, 0), (.getfield 19, 3, 0, 2, 0), (.aload_n 0, 1, 0, 0, 0), (.getfield 19, 3, 0, 2, 0)] (pc1 := 27) (lo1 := [some (.ref 312), some (.ref 22)]) (st1 := [.ref 314, .ref 24]) (μ1 := μ1) (vc := True) rfl (by decide +kernel) rfl trivial ?_
  refine pm_callSN2 mi_X9_copyRow (ix := 25) (host := RX9) (kc2 := 0) (ks2 := 0) (As := [.ref 24, .ref 314]) (rest := []) (c_X9_copyRow (a := 24) (b := 314) (n := 20) μ1 rfl rfl (by decide)) cal_X9_copyRow (by decide +kernel) (by decide +kernel) (by decide +kernel) rfl rfl (Nat.le_of_ble_eq_true rfl) (by decide) (by decide) ?_
  rintro _ μ2 ⟨rfl, e2⟩
  show pm_V _ _ _ _ 30 _ [] _
  refine pm_bl [(.aload_n 1, 1, 1, 0, 0), (.getfield 22, 3, 0, 3, 0), (.aload_n 0, 1, 0, 0, 0), (.getfield 22, 3, 0, 3, 0)] (pc1 := 38) (lo1 := [some (.ref 312), some (.ref 22)]) (st1 := [.ref 315, .ref 25]) (μ1 := μ2) (vc := True) rfl (by decide +kernel) rfl trivial ?_
  refine pm_callSN2 mi_X9_copyRow (ix := 25) (host := RX9) (kc2 := 0) (ks2 := 0) (As := [.ref 25, .ref 315]) (rest := []) (c_X9_copyRow (a := 25) (b := 315) (n := 20) μ2 rfl rfl (by decide)) cal_X9_copyRow (by decide +kernel) (by decide +kernel) (by decide +kernel) rfl rfl (Nat.le_of_ble_eq_true rfl) (by decide) (by decide) ?_
  rintro _ μ3 ⟨rfl, e3⟩
  show pm_V _ _ _ _ 41 _ [] _
  exact pm_vret rfl (by decide) (by decide) (by decide +kernel) (by
    subst e1; subst e2; subst e3
    refine ⟨rfl, rfl, fun i hi => by rw [pm_row_off (by omega), pm_row_off (by omega), pm_row_off (by omega), pm_set_off (by omega)], lr_Ra.mv (b := 1) (b2 := 291) hX hn (by simp only [Nat.reduceAdd]; rw [pm_row_off (by decide), pm_row_off (by decide), pm_row_off (by decide), pm_set_hit]) (fun k i h1 h2 h3 => ?_) (fun _ _ _ => rfl)⟩
    rcases (show k = 22 ∨ k = 23 ∨ k = 24 by omega) with rfl | rfl | rfl
    · simp only [Nat.reduceAdd]; rw [pm_row_off (by decide), pm_row_off (by decide), pm_row_at]; unfold va_cpy; rw [if_pos (by omega), pm_set_off (by decide), show 0 + (i - 0) = i from by omega]
    · simp only [Nat.reduceAdd]; rw [pm_row_off (by decide), pm_row_at]; unfold va_cpy; rw [if_pos (by omega), pm_row_off (by decide), pm_set_off (by decide), show 0 + (i - 0) = i from by omega]
    · simp only [Nat.reduceAdd]; rw [pm_row_at]; unfold va_cpy; rw [if_pos (by omega), pm_row_off (by decide), pm_row_off (by decide), pm_set_off (by decide), show 0 + (i - 0) = i from by omega])
set_option maxHeartbeats 4000000 in
set_option maxRecDepth 100000 in
theorem c_X4_copyFrom_291_1 {g : Nat → Int32} (μ : pm_Mm) (hX : lr_Rl μ.1 1 g) (hn : lr_n g 289 ≤ 30) : pm_CT mi_X4_copyFrom [.ref 316, .ref 26] μ (fun v μ2 => v = none ∧ μ2.2 = μ.2 ∧ (∀ i, (i < 316 ∨ 328 < i) → μ2.1 i = μ.1 i) ∧ lr_Rl μ2.1 291 g) pm_NX := by
  refine pm_CT_of (lo := [some (.ref 316), some (.ref 26)]) (by decide +kernel) rfl rfl (by intro v hv; simp at hv; rcases hv with rfl | rfl <;> rfl) (Nat.le_of_ble_eq_true rfl) rfl ?_
  refine pm_bl [(.aload_n 0, 1, 0, 0, 0), (.aload_n 1, 1, 1, 0, 0), (.getfield 9, 3, 4, 0, 0), (.putfield 9, 3, 4, 0, 0), (.aload_n 0, 1, 0, 0, 0), (.aload_n 1, 1, 1, 0, 0), (.getfield 15, 3, 4, 1, 0), (.putfield 15, 3, 4, 1, 0), (.aload_n 1, 1, 1, 0, 0), (.getfield 18, 3, 4, 2, 0), (.aload_n 0, 1, 0, 0, 0), (.getfield 18, 3, 4, 2, 0)] (pc1 := 24) (lo1 := [some (.ref 316), some (.ref 26)]) (st1 := [.ref 317, .ref 27]) (μ1 := pm_set (pm_set μ 316 0 (μ.1 26 0)) 316 1 ((pm_set μ 316 0 (μ.1 26 0)).1 26 1)) (vc := True) rfl (by decide +kernel) rfl trivial ?_
  rw [show (pm_set μ 316 0 (μ.1 26 0)).1 26 1 = μ.1 26 1 from by simp [pm_set]]
  refine pm_callSN2 mi_X9_copyRow (ix := 55) (host := RX9) (kc2 := 0) (ks2 := 0) (As := [.ref 27, .ref 317]) (rest := []) (c_X9_copyRow (a := 27) (b := 317) (n := 30) (pm_set (pm_set μ 316 0 (μ.1 26 0)) 316 1 (μ.1 26 1)) rfl rfl (by decide)) cal_X9_copyRow (by decide +kernel) (by decide +kernel) (by decide +kernel) rfl rfl (Nat.le_of_ble_eq_true rfl) (by decide) (by decide) ?_
  rintro _ μ1 ⟨rfl, e1⟩
  show pm_V _ _ _ _ 27 _ [] _
  refine pm_bl [(.aload_n 1, 1, 1, 0, 0), (.getfield 22, 3, 4, 3, 0), (.aload_n 0, 1, 0, 0, 0), (.getfield 22, 3, 4, 3, 0)] (pc1 := 35) (lo1 := [some (.ref 316), some (.ref 26)]) (st1 := [.ref 318, .ref 28]) (μ1 := μ1) (vc := True) rfl (by decide +kernel) rfl trivial ?_
  refine pm_callSN2 mi_X9_copyRow (ix := 55) (host := RX9) (kc2 := 0) (ks2 := 0) (As := [.ref 28, .ref 318]) (rest := []) (c_X9_copyRow (a := 28) (b := 318) (n := 30) μ1 rfl rfl (by decide)) cal_X9_copyRow (by decide +kernel) (by decide +kernel) (by decide +kernel) rfl rfl (Nat.le_of_ble_eq_true rfl) (by decide) (by decide) ?_
  rintro _ μ2 ⟨rfl, e2⟩
  show pm_V _ _ _ _ 38 _ [] _
  refine pm_bl [(.aload_n 1, 1, 1, 0, 0), (.getfield 25, 3, 4, 4, 0), (.aload_n 0, 1, 0, 0, 0), (.getfield 25, 3, 4, 4, 0)] (pc1 := 46) (lo1 := [some (.ref 316), some (.ref 26)]) (st1 := [.ref 319, .ref 29]) (μ1 := μ2) (vc := True) rfl (by decide +kernel) rfl trivial ?_
  refine pm_callSN2 mi_X9_copyRow (ix := 55) (host := RX9) (kc2 := 0) (ks2 := 0) (As := [.ref 29, .ref 319]) (rest := []) (c_X9_copyRow (a := 29) (b := 319) (n := 30) μ2 rfl rfl (by decide)) cal_X9_copyRow (by decide +kernel) (by decide +kernel) (by decide +kernel) rfl rfl (Nat.le_of_ble_eq_true rfl) (by decide) (by decide) ?_
  rintro _ μ3 ⟨rfl, e3⟩
  show pm_V _ _ _ _ 49 _ [] _
  refine pm_bl [(.aload_n 1, 1, 1, 0, 0), (.getfield 28, 3, 4, 5, 0), (.aload_n 0, 1, 0, 0, 0), (.getfield 28, 3, 4, 5, 0)] (pc1 := 57) (lo1 := [some (.ref 316), some (.ref 26)]) (st1 := [.ref 320, .ref 30]) (μ1 := μ3) (vc := True) rfl (by decide +kernel) rfl trivial ?_
  refine pm_callSN2 mi_X9_copyRow (ix := 55) (host := RX9) (kc2 := 0) (ks2 := 0) (As := [.ref 30, .ref 320]) (rest := []) (c_X9_copyRow (a := 30) (b := 320) (n := 30) μ3 rfl rfl (by decide)) cal_X9_copyRow (by decide +kernel) (by decide +kernel) (by decide +kernel) rfl rfl (Nat.le_of_ble_eq_true rfl) (by decide) (by decide) ?_
  rintro _ μ4 ⟨rfl, e4⟩
  show pm_V _ _ _ _ 60 _ [] _
  refine pm_bl [(.aload_n 1, 1, 1, 0, 0), (.getfield 31, 3, 4, 6, 0), (.aload_n 0, 1, 0, 0, 0), (.getfield 31, 3, 4, 6, 0)] (pc1 := 68) (lo1 := [some (.ref 316), some (.ref 26)]) (st1 := [.ref 321, .ref 31]) (μ1 := μ4) (vc := True) rfl (by decide +kernel) rfl trivial ?_
  refine pm_callSN2 mi_X9_copyRow (ix := 55) (host := RX9) (kc2 := 0) (ks2 := 0) (As := [.ref 31, .ref 321]) (rest := []) (c_X9_copyRow (a := 31) (b := 321) (n := 30) μ4 rfl rfl (by decide)) cal_X9_copyRow (by decide +kernel) (by decide +kernel) (by decide +kernel) rfl rfl (Nat.le_of_ble_eq_true rfl) (by decide) (by decide) ?_
  rintro _ μ5 ⟨rfl, e5⟩
  show pm_V _ _ _ _ 71 _ [] _
  refine pm_bl [(.aload_n 1, 1, 1, 0, 0), (.getfield 34, 3, 4, 7, 0), (.aload_n 0, 1, 0, 0, 0), (.getfield 34, 3, 4, 7, 0)] (pc1 := 79) (lo1 := [some (.ref 316), some (.ref 26)]) (st1 := [.ref 322, .ref 32]) (μ1 := μ5) (vc := True) rfl (by decide +kernel) rfl trivial ?_
  refine pm_callSN2 mi_X9_copyRow (ix := 55) (host := RX9) (kc2 := 0) (ks2 := 0) (As := [.ref 32, .ref 322]) (rest := []) (c_X9_copyRow (a := 32) (b := 322) (n := 30) μ5 rfl rfl (by decide)) cal_X9_copyRow (by decide +kernel) (by decide +kernel) (by decide +kernel) rfl rfl (Nat.le_of_ble_eq_true rfl) (by decide) (by decide) ?_
  rintro _ μ6 ⟨rfl, e6⟩
  show pm_V _ _ _ _ 82 _ [] _
  refine pm_bl [(.aload_n 1, 1, 1, 0, 0), (.getfield 37, 3, 4, 8, 0), (.aload_n 0, 1, 0, 0, 0), (.getfield 37, 3, 4, 8, 0)] (pc1 := 90) (lo1 := [some (.ref 316), some (.ref 26)]) (st1 := [.ref 323, .ref 33]) (μ1 := μ6) (vc := True) rfl (by decide +kernel) rfl trivial ?_
  refine pm_callSN2 mi_X9_copyRow (ix := 55) (host := RX9) (kc2 := 0) (ks2 := 0) (As := [.ref 33, .ref 323]) (rest := []) (c_X9_copyRow (a := 33) (b := 323) (n := 30) μ6 rfl rfl (by decide)) cal_X9_copyRow (by decide +kernel) (by decide +kernel) (by decide +kernel) rfl rfl (Nat.le_of_ble_eq_true rfl) (by decide) (by decide) ?_
  rintro _ μ7 ⟨rfl, e7⟩
  show pm_V _ _ _ _ 93 _ [] _
  refine pm_bl [(.aload_n 1, 1, 1, 0, 0), (.getfield 40, 3, 4, 9, 0), (.aload_n 0, 1, 0, 0, 0), (.getfield 40, 3, 4, 9, 0)] (pc1 := 101) (lo1 := [some (.ref 316), some (.ref 26)]) (st1 := [.ref 324, .ref 34]) (μ1 := μ7) (vc := True) rfl (by decide +kernel) rfl trivial ?_
  refine pm_callSN2 mi_X9_copyRow (ix := 55) (host := RX9) (kc2 := 0) (ks2 := 0) (As := [.ref 34, .ref 324]) (rest := []) (c_X9_copyRow (a := 34) (b := 324) (n := 30) μ7 rfl rfl (by decide)) cal_X9_copyRow (by decide +kernel) (by decide +kernel) (by decide +kernel) rfl rfl (Nat.le_of_ble_eq_true rfl) (by decide) (by decide) ?_
  rintro _ μ8 ⟨rfl, e8⟩
  show pm_V _ _ _ _ 104 _ [] _
  refine pm_bl [(.aload_n 1, 1, 1, 0, 0), (.getfield 43, 3, 4, 10, 0), (.aload_n 0, 1, 0, 0, 0), (.getfield 43, 3, 4, 10, 0)] (pc1 := 112) (lo1 := [some (.ref 316), some (.ref 26)]) (st1 := [.ref 325, .ref 35]) (μ1 := μ8) (vc := True) rfl (by decide +kernel) rfl trivial ?_
  refine pm_callSN2 mi_X9_copyRow (ix := 55) (host := RX9) (kc2 := 0) (ks2 := 0) (As := [.ref 35, .ref 325]) (rest := []) (c_X9_copyRow (a := 35) (b := 325) (n := 30) μ8 rfl rfl (by decide)) cal_X9_copyRow (by decide +kernel) (by decide +kernel) (by decide +kernel) rfl rfl (Nat.le_of_ble_eq_true rfl) (by decide) (by decide) ?_
  rintro _ μ9 ⟨rfl, e9⟩
  show pm_V _ _ _ _ 115 _ [] _
  refine pm_bl [(.aload_n 1, 1, 1, 0, 0), (.getfield 46, 3, 4, 11, 0), (.aload_n 0, 1, 0, 0, 0), (.getfield 46, 3, 4, 11, 0)] (pc1 := 123) (lo1 := [some (.ref 316), some (.ref 26)]) (st1 := [.ref 326, .ref 36]) (μ1 := μ9) (vc := True) rfl (by decide +kernel) rfl trivial ?_
  refine pm_callSN2 mi_X9_copyRow (ix := 55) (host := RX9) (kc2 := 0) (ks2 := 0) (As := [.ref 36, .ref 326]) (rest := []) (c_X9_copyRow (a := 36) (b := 326) (n := 30) μ9 rfl rfl (by decide)) cal_X9_copyRow (by decide +kernel) (by decide +kernel) (by decide +kernel) rfl rfl (Nat.le_of_ble_eq_true rfl) (by decide) (by decide) ?_
  rintro _ μ10 ⟨rfl, e10⟩
  show pm_V _ _ _ _ 126 _ [] _
  refine pm_bl [(.aload_n 1, 1, 1, 0, 0), (.getfield 49, 3, 4, 12, 0), (.aload_n 0, 1, 0, 0, 0), (.getfield 49, 3, 4, 12, 0)] (pc1 := 134) (lo1 := [some (.ref 316), some (.ref 26)]) (st1 := [.ref 327, .ref 37]) (μ1 := μ10) (vc := True) rfl (by decide +kernel) rfl trivial ?_
  refine pm_callSN2 mi_X9_copyRow (ix := 55) (host := RX9) (kc2 := 0) (ks2 := 0) (As := [.ref 37, .ref 327]) (rest := []) (c_X9_copyRow (a := 37) (b := 327) (n := 30) μ10 rfl rfl (by decide)) cal_X9_copyRow (by decide +kernel) (by decide +kernel) (by decide +kernel) rfl rfl (Nat.le_of_ble_eq_true rfl) (by decide) (by decide) ?_
  rintro _ μ11 ⟨rfl, e11⟩
  show pm_V _ _ _ _ 137 _ [] _
  refine pm_bl [(.aload_n 1, 1, 1, 0, 0), (.getfield 52, 3, 4, 13, 0), (.aload_n 0, 1, 0, 0, 0), (.getfield 52, 3, 4, 13, 0)] (pc1 := 145) (lo1 := [some (.ref 316), some (.ref 26)]) (st1 := [.ref 328, .ref 38]) (μ1 := μ11) (vc := True) rfl (by decide +kernel) rfl trivial ?_
  refine pm_callSN2 mi_X9_copyRow (ix := 55) (host := RX9) (kc2 := 0) (ks2 := 0) (As := [.ref 38, .ref 328]) (rest := []) (c_X9_copyRow (a := 38) (b := 328) (n := 30) μ11 rfl rfl (by decide)) cal_X9_copyRow (by decide +kernel) (by decide +kernel) (by decide +kernel) rfl rfl (Nat.le_of_ble_eq_true rfl) (by decide) (by decide) ?_
  rintro _ μ12 ⟨rfl, e12⟩
  show pm_V _ _ _ _ 148 _ [] _
  exact pm_vret rfl (by decide) (by decide) (by decide +kernel) (by
    subst e1; subst e2; subst e3; subst e4; subst e5; subst e6; subst e7; subst e8; subst e9; subst e10; subst e11; subst e12
    refine ⟨rfl, rfl, fun i hi => by rw [pm_row_off (by omega), pm_row_off (by omega), pm_row_off (by omega), pm_row_off (by omega), pm_row_off (by omega), pm_row_off (by omega), pm_row_off (by omega), pm_row_off (by omega), pm_row_off (by omega), pm_row_off (by omega), pm_row_off (by omega), pm_row_off (by omega), pm_set_off (by omega), pm_set_off (by omega)], lr_Rl.mv (b := 1) (b2 := 291) hX hn (by simp only [Nat.reduceAdd]; rw [pm_row_off (by decide), pm_row_off (by decide), pm_row_off (by decide), pm_row_off (by decide), pm_row_off (by decide), pm_row_off (by decide), pm_row_off (by decide), pm_row_off (by decide), pm_row_off (by decide), pm_row_off (by decide), pm_row_off (by decide), pm_row_off (by decide), pm_set_miss (Or.inr (by decide)), pm_set_hit]) (by simp only [Nat.reduceAdd]; rw [pm_row_off (by decide), pm_row_off (by decide), pm_row_off (by decide), pm_row_off (by decide), pm_row_off (by decide), pm_row_off (by decide), pm_row_off (by decide), pm_row_off (by decide), pm_row_off (by decide), pm_row_off (by decide), pm_row_off (by decide), pm_row_off (by decide), pm_set_hit]) (fun k i h1 h2 h3 => ?_) (fun _ _ _ => rfl) rfl⟩
    rcases (show k = 26 ∨ k = 27 ∨ k = 28 ∨ k = 29 ∨ k = 30 ∨ k = 31 ∨ k = 32 ∨ k = 33 ∨ k = 34 ∨ k = 35 ∨ k = 36 ∨ k = 37 by omega) with rfl | rfl | rfl | rfl | rfl | rfl | rfl | rfl | rfl | rfl | rfl | rfl
    · simp only [Nat.reduceAdd]; rw [pm_row_off (by decide), pm_row_off (by decide), pm_row_off (by decide), pm_row_off (by decide), pm_row_off (by decide), pm_row_off (by decide), pm_row_off (by decide), pm_row_off (by decide), pm_row_off (by decide), pm_row_off (by decide), pm_row_off (by decide), pm_row_at]; unfold va_cpy; rw [if_pos (by omega), pm_set_off (by decide), pm_set_off (by decide), show 0 + (i - 0) = i from by omega]
    · simp only [Nat.reduceAdd]; rw [pm_row_off (by decide), pm_row_off (by decide), pm_row_off (by decide), pm_row_off (by decide), pm_row_off (by decide), pm_row_off (by decide), pm_row_off (by decide), pm_row_off (by decide), pm_row_off (by decide), pm_row_off (by decide), pm_row_at]; unfold va_cpy; rw [if_pos (by omega), pm_row_off (by decide), pm_set_off (by decide), pm_set_off (by decide), show 0 + (i - 0) = i from by omega]
    · simp only [Nat.reduceAdd]; rw [pm_row_off (by decide), pm_row_off (by decide), pm_row_off (by decide), pm_row_off (by decide), pm_row_off (by decide), pm_row_off (by decide), pm_row_off (by decide), pm_row_off (by decide), pm_row_off (by decide), pm_row_at]; unfold va_cpy; rw [if_pos (by omega), pm_row_off (by decide), pm_row_off (by decide), pm_set_off (by decide), pm_set_off (by decide), show 0 + (i - 0) = i from by omega]
    · simp only [Nat.reduceAdd]; rw [pm_row_off (by decide), pm_row_off (by decide), pm_row_off (by decide), pm_row_off (by decide), pm_row_off (by decide), pm_row_off (by decide), pm_row_off (by decide), pm_row_off (by decide), pm_row_at]; unfold va_cpy; rw [if_pos (by omega), pm_row_off (by decide), pm_row_off (by decide), pm_row_off (by decide), pm_set_off (by decide), pm_set_off (by decide), show 0 + (i - 0) = i from by omega]
    · simp only [Nat.reduceAdd]; rw [pm_row_off (by decide), pm_row_off (by decide), pm_row_off (by decide), pm_row_off (by decide), pm_row_off (by decide), pm_row_off (by decide), pm_row_off (by decide), pm_row_at]; unfold va_cpy; rw [if_pos (by omega), pm_row_off (by decide), pm_row_off (by decide), pm_row_off (by decide), pm_row_off (by decide), pm_set_off (by decide), pm_set_off (by decide), show 0 + (i - 0) = i from by omega]
    · simp only [Nat.reduceAdd]; rw [pm_row_off (by decide), pm_row_off (by decide), pm_row_off (by decide), pm_row_off (by decide), pm_row_off (by decide), pm_row_off (by decide), pm_row_at]; unfold va_cpy; rw [if_pos (by omega), pm_row_off (by decide), pm_row_off (by decide), pm_row_off (by decide), pm_row_off (by decide), pm_row_off (by decide), pm_set_off (by decide), pm_set_off (by decide), show 0 + (i - 0) = i from by omega]
    · simp only [Nat.reduceAdd]; rw [pm_row_off (by decide), pm_row_off (by decide), pm_row_off (by decide), pm_row_off (by decide), pm_row_off (by decide), pm_row_at]; unfold va_cpy; rw [if_pos (by omega), pm_row_off (by decide), pm_row_off (by decide), pm_row_off (by decide), pm_row_off (by decide), pm_row_off (by decide), pm_row_off (by decide), pm_set_off (by decide), pm_set_off (by decide), show 0 + (i - 0) = i from by omega]
    · simp only [Nat.reduceAdd]; rw [pm_row_off (by decide), pm_row_off (by decide), pm_row_off (by decide), pm_row_off (by decide), pm_row_at]; unfold va_cpy; rw [if_pos (by omega), pm_row_off (by decide), pm_row_off (by decide), pm_row_off (by decide), pm_row_off (by decide), pm_row_off (by decide), pm_row_off (by decide), pm_row_off (by decide), pm_set_off (by decide), pm_set_off (by decide), show 0 + (i - 0) = i from by omega]
    · simp only [Nat.reduceAdd]; rw [pm_row_off (by decide), pm_row_off (by decide), pm_row_off (by decide), pm_row_at]; unfold va_cpy; rw [if_pos (by omega), pm_row_off (by decide), pm_row_off (by decide), pm_row_off (by decide), pm_row_off (by decide), pm_row_off (by decide), pm_row_off (by decide), pm_row_off (by decide), pm_row_off (by decide), pm_set_off (by decide), pm_set_off (by decide), show 0 + (i - 0) = i from by omega]
    · simp only [Nat.reduceAdd]; rw [pm_row_off (by decide), pm_row_off (by decide), pm_row_at]; unfold va_cpy; rw [if_pos (by omega), pm_row_off (by decide), pm_row_off (by decide), pm_row_off (by decide), pm_row_off (by decide), pm_row_off (by decide), pm_row_off (by decide), pm_row_off (by decide), pm_row_off (by decide), pm_row_off (by decide), pm_set_off (by decide), pm_set_off (by decide), show 0 + (i - 0) = i from by omega]
    · simp only [Nat.reduceAdd]; rw [pm_row_off (by decide), pm_row_at]; unfold va_cpy; rw [if_pos (by omega), pm_row_off (by decide), pm_row_off (by decide), pm_row_off (by decide), pm_row_off (by decide), pm_row_off (by decide), pm_row_off (by decide), pm_row_off (by decide), pm_row_off (by decide), pm_row_off (by decide), pm_row_off (by decide), pm_set_off (by decide), pm_set_off (by decide), show 0 + (i - 0) = i from by omega]
    · simp only [Nat.reduceAdd]; rw [pm_row_at]; unfold va_cpy; rw [if_pos (by omega), pm_row_off (by decide), pm_row_off (by decide), pm_row_off (by decide), pm_row_off (by decide), pm_row_off (by decide), pm_row_off (by decide), pm_row_off (by decide), pm_row_off (by decide), pm_row_off (by decide), pm_row_off (by decide), pm_row_off (by decide), pm_set_off (by decide), pm_set_off (by decide), show 0 + (i - 0) = i from by omega])
set_option maxHeartbeats 4000000 in
set_option maxRecDepth 100000 in
theorem c_X5_copyFrom_291_1 {g : Nat → Int32} (μ : pm_Mm) (hR : lr_Rel μ.1 1 g) (hB : lr_B g) : pm_CT mi_X5_copyFrom [.ref 291, .ref 1] μ (fun v μ2 => v = none ∧ μ2.2 = μ.2 ∧ (∀ i, (i < 291 ∨ 329 < i) → μ2.1 i = μ.1 i) ∧ lr_Rel μ2.1 291 g) pm_NX := by
  refine pm_CT_of (lo := [some (.ref 291), some (.ref 1)]) (by decide +kernel) rfl rfl (by intro v hv; simp at hv; rcases hv with rfl | rfl <;> rfl) (Nat.le_of_ble_eq_true rfl) rfl ?_
  obtain ⟨hm1, hm3, hm2, hm4, hm5, hm6⟩ := id hB
  refine pm_bl [(.aload_n 0, 1, 0, 0, 0), (.getfield 12, 3, 5, 0, 0), (.aload_n 1, 1, 1, 0, 0), (.getfield 12, 3, 5, 0, 0)] (pc1 := 8) (lo1 := [some (.ref 291), some (.ref 1)]) (st1 := [.ref 2, .ref 292]) (μ1 := μ) (vc := True) rfl (by decide +kernel) rfl trivial ?_
  refine pm_callV2 mi_X3_copyFrom (ix := 61) (b := 292) (ci := 3) (kc2 := 0) (ks2 := 0) (As := [.ref 2]) (rest := []) (c_X3_copyFrom_291_1 μ hR.2.1 hm1) cal_X3_copyFrom lk5_61 (by decide +kernel) rfl (by decide +kernel) rfl rfl rfl rfl (Nat.le_of_ble_eq_true rfl) (by decide) (by decide) (fun _ _ h9 => h9.elim) ?_
  rintro _ μ1 ⟨rfl, x1, f1, r1⟩
  show pm_V _ _ _ _ 11 _ [] _
  refine pm_bl [(.aload_n 0, 1, 0, 0, 0), (.getfield 21, 3, 5, 1, 0), (.aload_n 1, 1, 1, 0, 0), (.getfield 21, 3, 5, 1, 0)] (pc1 := 19) (lo1 := [some (.ref 291), some (.ref 1)]) (st1 := [.ref 5, .ref 295]) (μ1 := μ1) (vc := True) rfl (by decide +kernel) rfl trivial ?_
  refine pm_callV2 mi_X6_copyFrom (ix := 65) (b := 295) (ci := 6) (kc2 := 0) (ks2 := 0) (As := [.ref 5]) (rest := []) (c_X6_copyFrom_291_1 μ1 (lr_Rp.st (b := 1) hR.2.2.1 hm3 (fun k h1 h2 => by rw [f1 _ (by omega)]) (fun _ _ _ => rfl)) hm3) cal_X6_copyFrom lk5_65 (by decide +kernel) rfl (by decide +kernel) rfl rfl rfl rfl (Nat.le_of_ble_eq_true rfl) (by decide) (by decide) (fun _ _ h9 => h9.elim) ?_
  rintro _ μ2 ⟨rfl, x2, f2, r2⟩
  show pm_V _ _ _ _ 22 _ [] _
  refine pm_bl [(.aload_n 0, 1, 0, 0, 0), (.getfield 28, 3, 5, 2, 0), (.aload_n 1, 1, 1, 0, 0), (.getfield 28, 3, 5, 2, 0)] (pc1 := 30) (lo1 := [some (.ref 291), some (.ref 1)]) (st1 := [.ref 10, .ref 300]) (μ1 := μ2) (vc := True) rfl (by decide +kernel) rfl trivial ?_
  refine pm_callV2 mi_X8_copyFrom (ix := 68) (b := 300) (ci := 8) (kc2 := 0) (ks2 := 0) (As := [.ref 10]) (rest := []) (c_X8_copyFrom_291_1 μ2 (lr_Rw.st (b := 1) hR.2.2.2.1 hm2 (fun k h1 h2 => by rw [f2 _ (by omega), f1 _ (by omega)]) (fun _ _ _ => rfl)) hm2) cal_X8_copyFrom lk5_68 (by decide +kernel) rfl (by decide +kernel) rfl rfl rfl rfl (Nat.le_of_ble_eq_true rfl) (by decide) (by decide) (fun _ _ h9 => h9.elim) ?_
  rintro _ μ3 ⟨rfl, x3, f3, r3⟩
  show pm_V _ _ _ _ 33 _ [] _
  refine pm_bl [(.aload_n 0, 1, 0, 0, 0), (.getfield 35, 3, 5, 3, 0), (.aload_n 1, 1, 1, 0, 0), (.getfield 35, 3, 5, 3, 0)] (pc1 := 41) (lo1 := [some (.ref 291), some (.ref 1)]) (st1 := [.ref 16, .ref 306]) (μ1 := μ3) (vc := True) rfl (by decide +kernel) rfl trivial ?_
  refine pm_callV2 mi_X7_copyFrom (ix := 71) (b := 306) (ci := 7) (kc2 := 0) (ks2 := 0) (As := [.ref 16]) (rest := []) (c_X7_copyFrom_291_1 μ3 (lr_Rr.st (b := 1) hR.2.2.2.2.1 hm4 (fun k h1 h2 => by rw [f3 _ (by omega), f2 _ (by omega), f1 _ (by omega)]) (fun _ _ _ => rfl)) hm4) cal_X7_copyFrom lk5_71 (by decide +kernel) rfl (by decide +kernel) rfl rfl rfl rfl (Nat.le_of_ble_eq_true rfl) (by decide) (by decide) (fun _ _ h9 => h9.elim) ?_
  rintro _ μ4 ⟨rfl, x4, f4, r4⟩
  show pm_V _ _ _ _ 44 _ [] _
  refine pm_bl [(.aload_n 0, 1, 0, 0, 0), (.getfield 42, 3, 5, 4, 0), (.aload_n 1, 1, 1, 0, 0), (.getfield 42, 3, 5, 4, 0)] (pc1 := 52) (lo1 := [some (.ref 291), some (.ref 1)]) (st1 := [.ref 22, .ref 312]) (μ1 := μ4) (vc := True) rfl (by decide +kernel) rfl trivial ?_
  refine pm_callV2 mi_X0_copyFrom (ix := 74) (b := 312) (ci := 0) (kc2 := 0) (ks2 := 0) (As := [.ref 22]) (rest := []) (c_X0_copyFrom_291_1 μ4 (lr_Ra.st (b := 1) hR.2.2.2.2.2.1 hm5 (fun k h1 h2 => by rw [f4 _ (by omega), f3 _ (by omega), f2 _ (by omega), f1 _ (by omega)]) (fun _ _ _ => rfl)) hm5) cal_X0_copyFrom lk5_74 (by decide +kernel) rfl (by decide +kernel) rfl rfl rfl rfl (Nat.le_of_ble_eq_true rfl) (by decide) (by decide) (fun _ _ h9 => h9.elim) ?_
  rintro _ μ5 ⟨rfl, x5, f5, r5⟩
  show pm_V _ _ _ _ 55 _ [] _
  refine pm_bl [(.aload_n 0, 1, 0, 0, 0), (.getfield 49, 3, 5, 5, 0), (.aload_n 1, 1, 1, 0, 0), (.getfield 49, 3, 5, 5, 0)] (pc1 := 63) (lo1 := [some (.ref 291), some (.ref 1)]) (st1 := [.ref 26, .ref 316]) (μ1 := μ5) (vc := True) rfl (by decide +kernel) rfl trivial ?_
  refine pm_callV2 mi_X4_copyFrom (ix := 77) (b := 316) (ci := 4) (kc2 := 0) (ks2 := 0) (As := [.ref 26]) (rest := []) (c_X4_copyFrom_291_1 μ5 (lr_Rl.st (b := 1) hR.2.2.2.2.2.2 hm6 (fun k h1 h2 => by rw [f5 _ (by omega), f4 _ (by omega), f3 _ (by omega), f2 _ (by omega), f1 _ (by omega)]) rfl (fun _ _ _ => rfl)) hm6) cal_X4_copyFrom lk5_77 (by decide +kernel) rfl (by decide +kernel) rfl rfl rfl rfl (Nat.le_of_ble_eq_true rfl) (by decide) (by decide) (fun _ _ h9 => h9.elim) ?_
  rintro _ μ6 ⟨rfl, x6, f6, r6⟩
  show pm_V _ _ _ _ 66 _ [] _
  refine pm_bl [(.aload_n 0, 1, 0, 0, 0), (.aload_n 1, 1, 1, 0, 0), (.getfield 53, 3, 5, 6, 0), (.putfield 53, 3, 5, 6, 0)] (pc1 := 74) (lo1 := [some (.ref 291), some (.ref 1)]) (st1 := []) (μ1 := pm_set μ6 291 6 (μ6.1 1 6)) (vc := True) rfl (by decide +kernel) rfl trivial ?_
  exact pm_vret rfl (by decide) (by decide) (by decide +kernel) (⟨rfl, (x6.trans (x5.trans (x4.trans (x3.trans (x2.trans x1))))), fun i hi => by rw [pm_set_off (by omega), f6 _ (by omega), f5 _ (by omega), f4 _ (by omega), f3 _ (by omega), f2 _ (by omega), f1 _ (by omega)], by rw [pm_set_hit, f6 _ (by omega), f5 _ (by omega), f4 _ (by omega), f3 _ (by omega), f2 _ (by omega), f1 _ (by omega)]; exact hR.1, lr_Rh.st (b := 291) r1 hm1 (fun k h1 h2 => by rw [pm_set_off (by omega), f6 _ (by omega), f5 _ (by omega), f4 _ (by omega), f3 _ (by omega), f2 _ (by omega)]) (fun _ _ _ => rfl), lr_Rp.st (b := 291) r2 hm3 (fun k h1 h2 => by rw [pm_set_off (by omega), f6 _ (by omega), f5 _ (by omega), f4 _ (by omega), f3 _ (by omega)]) (fun _ _ _ => rfl), lr_Rw.st (b := 291) r3 hm2 (fun k h1 h2 => by rw [pm_set_off (by omega), f6 _ (by omega), f5 _ (by omega), f4 _ (by omega)]) (fun _ _ _ => rfl), lr_Rr.st (b := 291) r4 hm4 (fun k h1 h2 => by rw [pm_set_off (by omega), f6 _ (by omega), f5 _ (by omega)]) (fun _ _ _ => rfl), lr_Ra.st (b := 291) r5 hm5 (fun k h1 h2 => by rw [pm_set_off (by omega), f6 _ (by omega)]) (fun _ _ _ => rfl), lr_Rl.st (b := 291) r6 hm6 (fun k h1 h2 => by rw [pm_set_off (by omega)]) rfl (fun _ _ _ => rfl)⟩)
set_option maxHeartbeats 4000000 in
set_option maxRecDepth 100000 in
theorem c_X3_copyFrom_330_1 {g : Nat → Int32} (μ : pm_Mm) (hX : lr_Rh μ.1 1 g) (hn : lr_n g 2 ≤ 16) : pm_CT mi_X3_copyFrom [.ref 331, .ref 2] μ (fun v μ2 => v = none ∧ μ2.2 = μ.2 ∧ (∀ i, (i < 331 ∨ 333 < i) → μ2.1 i = μ.1 i) ∧ lr_Rh μ2.1 330 g) pm_NX := by
  refine pm_CT_of (lo := [some (.ref 331), some (.ref 2)]) (by decide +kernel) rfl rfl (by intro v hv; simp at hv; rcases hv with rfl | rfl <;> rfl) (Nat.le_of_ble_eq_true rfl) rfl ?_
  refine pm_bl [(.aload_n 0, 1, 0, 0, 0), (.aload_n 1, 1, 1, 0, 0), (.getfield 9, 3, 3, 0, 0), (.putfield 9, 3, 3, 0, 0), (.aload_n 1, 1, 1, 0, 0), (.getfield 15, 3, 3, 1, 0), (.aload_n 0, 1, 0, 0, 0), (.getfield 15, 3, 3, 1, 0)] (pc1 := 16) (lo1 := [some (.ref 331), some (.ref 2)]) (st1 := [.ref 332, .ref 3]) (μ1 := pm_set μ 331 0 (μ.1 2 0)) (vc := True) rfl (by decide +kernel) rfl trivial ?_
  refine pm_callSN2 mi_X9_copyRow (ix := 22) (host := RX9) (kc2 := 0) (ks2 := 0) (As := [.ref 3, .ref 332]) (rest := []) (c_X9_copyRow (a := 3) (b := 332) (n := 16) (pm_set μ 331 0 (μ.1 2 0)) rfl rfl (by decide)) cal_X9_copyRow (by decide +kernel) (by decide +kernel) (by decide +kernel) rfl rfl (Nat.le_of_ble_eq_true rfl) (by decide) (by decide) ?_
  rintro _ μ1 ⟨rfl, e1⟩
  show pm_V _ _ _ _ 19 _ [] _
  refine pm_bl [(.aload_n 1, 1, 1, 0, 0), (.getfield 19, 3, 3, 2, 0), (.aload_n 0, 1, 0, 0, 0), (.getfield 19, 3, 3, 2, 0)] (pc1 := 27) (lo1 := [some (.ref 331), some (.ref 2)]) (st1 := [.ref 333, .ref 4]) (μ1 := μ1) (vc := True) rfl (by decide +kernel) rfl trivial ?_
  refine pm_callSN2 mi_X9_copyRow (ix := 22) (host := RX9) (kc2 := 0) (ks2 := 0) (As := [.ref 4, .ref 333]) (rest := []) (c_X9_copyRow (a := 4) (b := 333) (n := 16) μ1 rfl rfl (by decide)) cal_X9_copyRow (by decide +kernel) (by decide +kernel) (by decide +kernel) rfl rfl (Nat.le_of_ble_eq_true rfl) (by decide) (by decide) ?_
  rintro _ μ2 ⟨rfl, e2⟩
  show pm_V _ _ _ _ 30 _ [] _
  exact pm_vret rfl (by decide) (by decide) (by decide +kernel) (by
    subst e1; subst e2
    refine ⟨rfl, rfl, fun i hi => by rw [pm_row_off (by omega), pm_row_off (by omega), pm_set_off (by omega)], lr_Rh.mv (b := 1) (b2 := 330) hX hn (by simp only [Nat.reduceAdd]; rw [pm_row_off (by decide), pm_row_off (by decide), pm_set_hit]) (fun k i h1 h2 h3 => ?_) (fun _ _ _ => rfl)⟩
    rcases (show k = 2 ∨ k = 3 by omega) with rfl | rfl
    · simp only [Nat.reduceAdd]; rw [pm_row_off (by decide), pm_row_at]; unfold va_cpy; rw [if_pos (by omega), pm_set_off (by decide), show 0 + (i - 0) = i from by omega]
    · simp only [Nat.reduceAdd]; rw [pm_row_at]; unfold va_cpy; rw [if_pos (by omega), pm_row_off (by decide), pm_set_off (by decide), show 0 + (i - 0) = i from by omega])
set_option maxHeartbeats 4000000 in
set_option maxRecDepth 100000 in
theorem c_X6_copyFrom_330_1 {g : Nat → Int32} (μ : pm_Mm) (hX : lr_Rp μ.1 1 g) (hn : lr_n g 35 ≤ 20) : pm_CT mi_X6_copyFrom [.ref 334, .ref 5] μ (fun v μ2 => v = none ∧ μ2.2 = μ.2 ∧ (∀ i, (i < 334 ∨ 338 < i) → μ2.1 i = μ.1 i) ∧ lr_Rp μ2.1 330 g) pm_NX := by
  refine pm_CT_of (lo := [some (.ref 334), some (.ref 5)]) (by decide +kernel) rfl rfl (by intro v hv; simp at hv; rcases hv with rfl | rfl <;> rfl) (Nat.le_of_ble_eq_true rfl) rfl ?_
  refine pm_bl [(.aload_n 0, 1, 0, 0, 0), (.aload_n 1, 1, 1, 0, 0), (.getfield 9, 3, 6, 0, 0), (.putfield 9, 3, 6, 0, 0), (.aload_n 1, 1, 1, 0, 0), (.getfield 15, 3, 6, 1, 0), (.aload_n 0, 1, 0, 0, 0), (.getfield 15, 3, 6, 1, 0)] (pc1 := 16) (lo1 := [some (.ref 334), some (.ref 5)]) (st1 := [.ref 335, .ref 6]) (μ1 := pm_set μ 334 0 (μ.1 5 0)) (vc := True) rfl (by decide +kernel) rfl trivial ?_
  refine pm_callSN2 mi_X9_copyRow (ix := 28) (host := RX9) (kc2 := 0) (ks2 := 0) (As := [.ref 6, .ref 335]) (rest := []) (c_X9_copyRow (a := 6) (b := 335) (n := 20) (pm_set μ 334 0 (μ.1 5 0)) rfl rfl (by decide)) cal_X9_copyRow (by decide +kernel) (by decide +kernel) (by decide +kernel) rfl rfl (Nat.le_of_ble_eq_true rfl) (by decide) (by decide) ?_
  rintro _ μ1 ⟨rfl, e1⟩
  show pm_V _ _ _ _ 19 _ [] _
  refine pm_bl [(.aload_n 1, 1, 1, 0, 0), (.getfield 19, 3, 6, 2, 0), (.aload_n 0, 1, 0, 0, 0), (.getfield 19, 3, 6, 2, 0)] (pc1 := 27) (lo1 := [some (.ref 334), some (.ref 5)]) (st1 := [.ref 336, .ref 7]) (μ1 := μ1) (vc := True) rfl (by decide +kernel) rfl trivial ?_
  refine pm_callSN2 mi_X9_copyRow (ix := 28) (host := RX9) (kc2 := 0) (ks2 := 0) (As := [.ref 7, .ref 336]) (rest := []) (c_X9_copyRow (a := 7) (b := 336) (n := 20) μ1 rfl rfl (by decide)) cal_X9_copyRow (by decide +kernel) (by decide +kernel) (by decide +kernel) rfl rfl (Nat.le_of_ble_eq_true rfl) (by decide) (by decide) ?_
  rintro _ μ2 ⟨rfl, e2⟩
  show pm_V _ _ _ _ 30 _ [] _
  refine pm_bl [(.aload_n 1, 1, 1, 0, 0), (.getfield 22, 3, 6, 3, 0), (.aload_n 0, 1, 0, 0, 0), (.getfield 22, 3, 6, 3, 0)] (pc1 := 38) (lo1 := [some (.ref 334), some (.ref 5)]) (st1 := [.ref 337, .ref 8]) (μ1 := μ2) (vc := True) rfl (by decide +kernel) rfl trivial ?_
  refine pm_callSN2 mi_X9_copyRow (ix := 28) (host := RX9) (kc2 := 0) (ks2 := 0) (As := [.ref 8, .ref 337]) (rest := []) (c_X9_copyRow (a := 8) (b := 337) (n := 20) μ2 rfl rfl (by decide)) cal_X9_copyRow (by decide +kernel) (by decide +kernel) (by decide +kernel) rfl rfl (Nat.le_of_ble_eq_true rfl) (by decide) (by decide) ?_
  rintro _ μ3 ⟨rfl, e3⟩
  show pm_V _ _ _ _ 41 _ [] _
  refine pm_bl [(.aload_n 1, 1, 1, 0, 0), (.getfield 25, 3, 6, 4, 0), (.aload_n 0, 1, 0, 0, 0), (.getfield 25, 3, 6, 4, 0)] (pc1 := 49) (lo1 := [some (.ref 334), some (.ref 5)]) (st1 := [.ref 338, .ref 9]) (μ1 := μ3) (vc := True) rfl (by decide +kernel) rfl trivial ?_
  refine pm_callSN2 mi_X9_copyRow (ix := 28) (host := RX9) (kc2 := 0) (ks2 := 0) (As := [.ref 9, .ref 338]) (rest := []) (c_X9_copyRow (a := 9) (b := 338) (n := 20) μ3 rfl rfl (by decide)) cal_X9_copyRow (by decide +kernel) (by decide +kernel) (by decide +kernel) rfl rfl (Nat.le_of_ble_eq_true rfl) (by decide) (by decide) ?_
  rintro _ μ4 ⟨rfl, e4⟩
  show pm_V _ _ _ _ 52 _ [] _
  exact pm_vret rfl (by decide) (by decide) (by decide +kernel) (by
    subst e1; subst e2; subst e3; subst e4
    refine ⟨rfl, rfl, fun i hi => by rw [pm_row_off (by omega), pm_row_off (by omega), pm_row_off (by omega), pm_row_off (by omega), pm_set_off (by omega)], lr_Rp.mv (b := 1) (b2 := 330) hX hn (by simp only [Nat.reduceAdd]; rw [pm_row_off (by decide), pm_row_off (by decide), pm_row_off (by decide), pm_row_off (by decide), pm_set_hit]) (fun k i h1 h2 h3 => ?_) (fun _ _ _ => rfl)⟩
    rcases (show k = 5 ∨ k = 6 ∨ k = 7 ∨ k = 8 by omega) with rfl | rfl | rfl | rfl
    · simp only [Nat.reduceAdd]; rw [pm_row_off (by decide), pm_row_off (by decide), pm_row_off (by decide), pm_row_at]; unfold va_cpy; rw [if_pos (by omega), pm_set_off (by decide), show 0 + (i - 0) = i from by omega]
    · simp only [Nat.reduceAdd]; rw [pm_row_off (by decide), pm_row_off (by decide), pm_row_at]; unfold va_cpy; rw [if_pos (by omega), pm_row_off (by decide), pm_set_off (by decide), show 0 + (i - 0) = i from by omega]
    · simp only [Nat.reduceAdd]; rw [pm_row_off (by decide), pm_row_at]; unfold va_cpy; rw [if_pos (by omega), pm_row_off (by decide), pm_row_off (by decide), pm_set_off (by decide), show 0 + (i - 0) = i from by omega]
    · simp only [Nat.reduceAdd]; rw [pm_row_at]; unfold va_cpy; rw [if_pos (by omega), pm_row_off (by decide), pm_row_off (by decide), pm_row_off (by decide), pm_set_off (by decide), show 0 + (i - 0) = i from by omega])
set_option maxHeartbeats 4000000 in
set_option maxRecDepth 100000 in
theorem c_X8_copyFrom_330_1 {g : Nat → Int32} (μ : pm_Mm) (hX : lr_Rw μ.1 1 g) (hn : lr_n g 116 ≤ 10) : pm_CT mi_X8_copyFrom [.ref 339, .ref 10] μ (fun v μ2 => v = none ∧ μ2.2 = μ.2 ∧ (∀ i, (i < 339 ∨ 344 < i) → μ2.1 i = μ.1 i) ∧ lr_Rw μ2.1 330 g) pm_NX := by
  refine pm_CT_of (lo := [some (.ref 339), some (.ref 10)]) (by decide +kernel) rfl rfl (by intro v hv; simp at hv; rcases hv with rfl | rfl <;> rfl) (Nat.le_of_ble_eq_true rfl) rfl ?_
  refine pm_bl [(.aload_n 0, 1, 0, 0, 0), (.aload_n 1, 1, 1, 0, 0), (.getfield 9, 3, 8, 0, 0), (.putfield 9, 3, 8, 0, 0), (.aload_n 1, 1, 1, 0, 0), (.getfield 15, 3, 8, 1, 0), (.aload_n 0, 1, 0, 0, 0), (.getfield 15, 3, 8, 1, 0)] (pc1 := 16) (lo1 := [some (.ref 339), some (.ref 10)]) (st1 := [.ref 340, .ref 11]) (μ1 := pm_set μ 339 0 (μ.1 10 0)) (vc := True) rfl (by decide +kernel) rfl trivial ?_
  refine pm_callSN2 mi_X9_copyRow (ix := 31) (host := RX9) (kc2 := 0) (ks2 := 0) (As := [.ref 11, .ref 340]) (rest := []) (c_X9_copyRow (a := 11) (b := 340) (n := 10) (pm_set μ 339 0 (μ.1 10 0)) rfl rfl (by decide)) cal_X9_copyRow (by decide +kernel) (by decide +kernel) (by decide +kernel) rfl rfl (Nat.le_of_ble_eq_true rfl) (by decide) (by decide) ?_
  rintro _ μ1 ⟨rfl, e1⟩
  show pm_V _ _ _ _ 19 _ [] _
  refine pm_bl [(.aload_n 1, 1, 1, 0, 0), (.getfield 19, 3, 8, 2, 0), (.aload_n 0, 1, 0, 0, 0), (.getfield 19, 3, 8, 2, 0)] (pc1 := 27) (lo1 := [some (.ref 339), some (.ref 10)]) (st1 := [.ref 341, .ref 12]) (μ1 := μ1) (vc := True) rfl (by decide +kernel) rfl trivial ?_
  refine pm_callSN2 mi_X9_copyRow (ix := 31) (host := RX9) (kc2 := 0) (ks2 := 0) (As := [.ref 12, .ref 341]) (rest := []) (c_X9_copyRow (a := 12) (b := 341) (n := 10) μ1 rfl rfl (by decide)) cal_X9_copyRow (by decide +kernel) (by decide +kernel) (by decide +kernel) rfl rfl (Nat.le_of_ble_eq_true rfl) (by decide) (by decide) ?_
  rintro _ μ2 ⟨rfl, e2⟩
  show pm_V _ _ _ _ 30 _ [] _
  refine pm_bl [(.aload_n 1, 1, 1, 0, 0), (.getfield 22, 3, 8, 3, 0), (.aload_n 0, 1, 0, 0, 0), (.getfield 22, 3, 8, 3, 0)] (pc1 := 38) (lo1 := [some (.ref 339), some (.ref 10)]) (st1 := [.ref 342, .ref 13]) (μ1 := μ2) (vc := True) rfl (by decide +kernel) rfl trivial ?_
  refine pm_callSN2 mi_X9_copyRow (ix := 31) (host := RX9) (kc2 := 0) (ks2 := 0) (As := [.ref 13, .ref 342]) (rest := []) (c_X9_copyRow (a := 13) (b := 342) (n := 10) μ2 rfl rfl (by decide)) cal_X9_copyRow (by decide +kernel) (by decide +kernel) (by decide +kernel) rfl rfl (Nat.le_of_ble_eq_true rfl) (by decide) (by decide) ?_
  rintro _ μ3 ⟨rfl, e3⟩
  show pm_V _ _ _ _ 41 _ [] _
  refine pm_bl [(.aload_n 1, 1, 1, 0, 0), (.getfield 25, 3, 8, 4, 0), (.aload_n 0, 1, 0, 0, 0), (.getfield 25, 3, 8, 4, 0)] (pc1 := 49) (lo1 := [some (.ref 339), some (.ref 10)]) (st1 := [.ref 343, .ref 14]) (μ1 := μ3) (vc := True) rfl (by decide +kernel) rfl trivial ?_
  refine pm_callSN2 mi_X9_copyRow (ix := 31) (host := RX9) (kc2 := 0) (ks2 := 0) (As := [.ref 14, .ref 343]) (rest := []) (c_X9_copyRow (a := 14) (b := 343) (n := 10) μ3 rfl rfl (by decide)) cal_X9_copyRow (by decide +kernel) (by decide +kernel) (by decide +kernel) rfl rfl (Nat.le_of_ble_eq_true rfl) (by decide) (by decide) ?_
  rintro _ μ4 ⟨rfl, e4⟩
  show pm_V _ _ _ _ 52 _ [] _
  refine pm_bl [(.aload_n 1, 1, 1, 0, 0), (.getfield 28, 3, 8, 5, 0), (.aload_n 0, 1, 0, 0, 0), (.getfield 28, 3, 8, 5, 0)] (pc1 := 60) (lo1 := [some (.ref 339), some (.ref 10)]) (st1 := [.ref 344, .ref 15]) (μ1 := μ4) (vc := True) rfl (by decide +kernel) rfl trivial ?_
  refine pm_callSN2 mi_X9_copyRow (ix := 31) (host := RX9) (kc2 := 0) (ks2 := 0) (As := [.ref 15, .ref 344]) (rest := []) (c_X9_copyRow (a := 15) (b := 344) (n := 10) μ4 rfl rfl (by decide)) cal_X9_copyRow (by decide +kernel) (by decide +kernel) (by decide +kernel) rfl rfl (Nat.le_of_ble_eq_true rfl) (by decide) (by decide) ?_
  rintro _ μ5 ⟨rfl, e5⟩
  show pm_V _ _ _ _ 63 _ [] _
  exact pm_vret rfl (by decide) (by decide) (by decide +kernel) (by
    subst e1; subst e2; subst e3; subst e4; subst e5
    refine ⟨rfl, rfl, fun i hi => by rw [pm_row_off (by omega), pm_row_off (by omega), pm_row_off (by omega), pm_row_off (by omega), pm_row_off (by omega), pm_set_off (by omega)], lr_Rw.mv (b := 1) (b2 := 330) hX hn (by simp only [Nat.reduceAdd]; rw [pm_row_off (by decide), pm_row_off (by decide), pm_row_off (by decide), pm_row_off (by decide), pm_row_off (by decide), pm_set_hit]) (fun k i h1 h2 h3 => ?_) (fun _ _ _ => rfl)⟩
    rcases (show k = 10 ∨ k = 11 ∨ k = 12 ∨ k = 13 ∨ k = 14 by omega) with rfl | rfl | rfl | rfl | rfl
    · simp only [Nat.reduceAdd]; rw [pm_row_off (by decide), pm_row_off (by decide), pm_row_off (by decide), pm_row_off (by decide), pm_row_at]; unfold va_cpy; rw [if_pos (by omega), pm_set_off (by decide), show 0 + (i - 0) = i from by omega]
    · simp only [Nat.reduceAdd]; rw [pm_row_off (by decide), pm_row_off (by decide), pm_row_off (by decide), pm_row_at]; unfold va_cpy; rw [if_pos (by omega), pm_row_off (by decide), pm_set_off (by decide), show 0 + (i - 0) = i from by omega]
    · simp only [Nat.reduceAdd]; rw [pm_row_off (by decide), pm_row_off (by decide), pm_row_at]; unfold va_cpy; rw [if_pos (by omega), pm_row_off (by decide), pm_row_off (by decide), pm_set_off (by decide), show 0 + (i - 0) = i from by omega]
    · simp only [Nat.reduceAdd]; rw [pm_row_off (by decide), pm_row_at]; unfold va_cpy; rw [if_pos (by omega), pm_row_off (by decide), pm_row_off (by decide), pm_row_off (by decide), pm_set_off (by decide), show 0 + (i - 0) = i from by omega]
    · simp only [Nat.reduceAdd]; rw [pm_row_at]; unfold va_cpy; rw [if_pos (by omega), pm_row_off (by decide), pm_row_off (by decide), pm_row_off (by decide), pm_row_off (by decide), pm_set_off (by decide), show 0 + (i - 0) = i from by omega])
set_option maxHeartbeats 4000000 in
set_option maxRecDepth 100000 in
theorem c_X7_copyFrom_330_1 {g : Nat → Int32} (μ : pm_Mm) (hX : lr_Rr μ.1 1 g) (hn : lr_n g 167 ≤ 12) : pm_CT mi_X7_copyFrom [.ref 345, .ref 16] μ (fun v μ2 => v = none ∧ μ2.2 = μ.2 ∧ (∀ i, (i < 345 ∨ 350 < i) → μ2.1 i = μ.1 i) ∧ lr_Rr μ2.1 330 g) pm_NX := by
  refine pm_CT_of (lo := [some (.ref 345), some (.ref 16)]) (by decide +kernel) rfl rfl (by intro v hv; simp at hv; rcases hv with rfl | rfl <;> rfl) (Nat.le_of_ble_eq_true rfl) rfl ?_
  refine pm_bl [(.aload_n 0, 1, 0, 0, 0), (.aload_n 1, 1, 1, 0, 0), (.getfield 9, 3, 7, 0, 0), (.putfield 9, 3, 7, 0, 0), (.aload_n 1, 1, 1, 0, 0), (.getfield 15, 3, 7, 1, 0), (.aload_n 0, 1, 0, 0, 0), (.getfield 15, 3, 7, 1, 0)] (pc1 := 16) (lo1 := [some (.ref 345), some (.ref 16)]) (st1 := [.ref 346, .ref 17]) (μ1 := pm_set μ 345 0 (μ.1 16 0)) (vc := True) rfl (by decide +kernel) rfl trivial ?_
  refine pm_callSN2 mi_X9_copyRow (ix := 31) (host := RX9) (kc2 := 0) (ks2 := 0) (As := [.ref 17, .ref 346]) (rest := []) (c_X9_copyRow (a := 17) (b := 346) (n := 12) (pm_set μ 345 0 (μ.1 16 0)) rfl rfl (by decide)) cal_X9_copyRow (by decide +kernel) (by decide +kernel) (by decide +kernel) rfl rfl (Nat.le_of_ble_eq_true rfl) (by decide) (by decide) ?_
  rintro _ μ1 ⟨rfl, e1⟩
  show pm_V _ _ _ _ 19 _ [] _
  refine pm_bl [(.aload_n 1, 1, 1, 0, 0), (.getfield 19, 3, 7, 2, 0), (.aload_n 0, 1, 0, 0, 0), (.getfield 19, 3, 7, 2, 0)] (pc1 := 27) (lo1 := [some (.ref 345), some (.ref 16)]) (st1 := [.ref 347, .ref 18]) (μ1 := μ1) (vc := True) rfl (by decide +kernel) rfl trivial ?_
  refine pm_callSN2 mi_X9_copyRow (ix := 31) (host := RX9) (kc2 := 0) (ks2 := 0) (As := [.ref 18, .ref 347]) (rest := []) (c_X9_copyRow (a := 18) (b := 347) (n := 12) μ1 rfl rfl (by decide)) cal_X9_copyRow (by decide +kernel) (by decide +kernel) (by decide +kernel) rfl rfl (Nat.le_of_ble_eq_true rfl) (by decide) (by decide) ?_
  rintro _ μ2 ⟨rfl, e2⟩
  show pm_V _ _ _ _ 30 _ [] _
  refine pm_bl [(.aload_n 1, 1, 1, 0, 0), (.getfield 22, 3, 7, 3, 0), (.aload_n 0, 1, 0, 0, 0), (.getfield 22, 3, 7, 3, 0)] (pc1 := 38) (lo1 := [some (.ref 345), some (.ref 16)]) (st1 := [.ref 348, .ref 19]) (μ1 := μ2) (vc := True) rfl (by decide +kernel) rfl trivial ?_
  refine pm_callSN2 mi_X9_copyRow (ix := 31) (host := RX9) (kc2 := 0) (ks2 := 0) (As := [.ref 19, .ref 348]) (rest := []) (c_X9_copyRow (a := 19) (b := 348) (n := 12) μ2 rfl rfl (by decide)) cal_X9_copyRow (by decide +kernel) (by decide +kernel) (by decide +kernel) rfl rfl (Nat.le_of_ble_eq_true rfl) (by decide) (by decide) ?_
  rintro _ μ3 ⟨rfl, e3⟩
  show pm_V _ _ _ _ 41 _ [] _
  refine pm_bl [(.aload_n 1, 1, 1, 0, 0), (.getfield 25, 3, 7, 4, 0), (.aload_n 0, 1, 0, 0, 0), (.getfield 25, 3, 7, 4, 0)] (pc1 := 49) (lo1 := [some (.ref 345), some (.ref 16)]) (st1 := [.ref 349, .ref 20]) (μ1 := μ3) (vc := True) rfl (by decide +kernel) rfl trivial ?_
  refine pm_callSN2 mi_X9_copyRow (ix := 31) (host := RX9) (kc2 := 0) (ks2 := 0) (As := [.ref 20, .ref 349]) (rest := []) (c_X9_copyRow (a := 20) (b := 349) (n := 12) μ3 rfl rfl (by decide)) cal_X9_copyRow (by decide +kernel) (by decide +kernel) (by decide +kernel) rfl rfl (Nat.le_of_ble_eq_true rfl) (by decide) (by decide) ?_
  rintro _ μ4 ⟨rfl, e4⟩
  show pm_V _ _ _ _ 52 _ [] _
  refine pm_bl [(.aload_n 1, 1, 1, 0, 0), (.getfield 28, 3, 7, 5, 0), (.aload_n 0, 1, 0, 0, 0), (.getfield 28, 3, 7, 5, 0)] (pc1 := 60) (lo1 := [some (.ref 345), some (.ref 16)]) (st1 := [.ref 350, .ref 21]) (μ1 := μ4) (vc := True) rfl (by decide +kernel) rfl trivial ?_
  refine pm_callSN2 mi_X9_copyRow (ix := 31) (host := RX9) (kc2 := 0) (ks2 := 0) (As := [.ref 21, .ref 350]) (rest := []) (c_X9_copyRow (a := 21) (b := 350) (n := 12) μ4 rfl rfl (by decide)) cal_X9_copyRow (by decide +kernel) (by decide +kernel) (by decide +kernel) rfl rfl (Nat.le_of_ble_eq_true rfl) (by decide) (by decide) ?_
  rintro _ μ5 ⟨rfl, e5⟩
  show pm_V _ _ _ _ 63 _ [] _
  exact pm_vret rfl (by decide) (by decide) (by decide +kernel) (by
    subst e1; subst e2; subst e3; subst e4; subst e5
    refine ⟨rfl, rfl, fun i hi => by rw [pm_row_off (by omega), pm_row_off (by omega), pm_row_off (by omega), pm_row_off (by omega), pm_row_off (by omega), pm_set_off (by omega)], lr_Rr.mv (b := 1) (b2 := 330) hX hn (by simp only [Nat.reduceAdd]; rw [pm_row_off (by decide), pm_row_off (by decide), pm_row_off (by decide), pm_row_off (by decide), pm_row_off (by decide), pm_set_hit]) (fun k i h1 h2 h3 => ?_) (fun _ _ _ => rfl)⟩
    rcases (show k = 16 ∨ k = 17 ∨ k = 18 ∨ k = 19 ∨ k = 20 by omega) with rfl | rfl | rfl | rfl | rfl
    · simp only [Nat.reduceAdd]; rw [pm_row_off (by decide), pm_row_off (by decide), pm_row_off (by decide), pm_row_off (by decide), pm_row_at]; unfold va_cpy; rw [if_pos (by omega), pm_set_off (by decide), show 0 + (i - 0) = i from by omega]
    · simp only [Nat.reduceAdd]; rw [pm_row_off (by decide), pm_row_off (by decide), pm_row_off (by decide), pm_row_at]; unfold va_cpy; rw [if_pos (by omega), pm_row_off (by decide), pm_set_off (by decide), show 0 + (i - 0) = i from by omega]
    · simp only [Nat.reduceAdd]; rw [pm_row_off (by decide), pm_row_off (by decide), pm_row_at]; unfold va_cpy; rw [if_pos (by omega), pm_row_off (by decide), pm_row_off (by decide), pm_set_off (by decide), show 0 + (i - 0) = i from by omega]
    · simp only [Nat.reduceAdd]; rw [pm_row_off (by decide), pm_row_at]; unfold va_cpy; rw [if_pos (by omega), pm_row_off (by decide), pm_row_off (by decide), pm_row_off (by decide), pm_set_off (by decide), show 0 + (i - 0) = i from by omega]
    · simp only [Nat.reduceAdd]; rw [pm_row_at]; unfold va_cpy; rw [if_pos (by omega), pm_row_off (by decide), pm_row_off (by decide), pm_row_off (by decide), pm_row_off (by decide), pm_set_off (by decide), show 0 + (i - 0) = i from by omega])
set_option maxHeartbeats 4000000 in
set_option maxRecDepth 100000 in
theorem c_X0_copyFrom_330_1 {g : Nat → Int32} (μ : pm_Mm) (hX : lr_Ra μ.1 1 g) (hn : lr_n g 228 ≤ 20) : pm_CT mi_X0_copyFrom [.ref 351, .ref 22] μ (fun v μ2 => v = none ∧ μ2.2 = μ.2 ∧ (∀ i, (i < 351 ∨ 354 < i) → μ2.1 i = μ.1 i) ∧ lr_Ra μ2.1 330 g) pm_NX := by
  refine pm_CT_of (lo := [some (.ref 351), some (.ref 22)]) (by decide +kernel) rfl rfl (by intro v hv; simp at hv; rcases hv with rfl | rfl <;> rfl) (Nat.le_of_ble_eq_true rfl) rfl ?_
  refine pm_bl [(.aload_n 0, 1, 0, 0, 0), (.aload_n 1, 1, 1, 0, 0), (.getfield 9, 3, 0, 0, 0), (.putfield 9, 3, 0, 0, 0), (.aload_n 1, 1, 1, 0, 0), (.getfield 15, 3, 0, 1, 0), (.aload_n 0, 1, 0, 0, 0), (.getfield 15, 3, 0, 1, 0)] (pc1 := 16) (lo1 := [some (.ref 351), some (.ref 22)]) (st1 := [.ref 352, .ref 23]) (μ1 := pm_set μ 351 0 (μ.1 22 0)) (vc := True) rfl (by decide +kernel) rfl trivial ?_
  refine pm_callSN2 mi_X9_copyRow (ix := 25) (host := RX9) (kc2 := 0) (ks2 := 0) (As := [.ref 23, .ref 352]) (rest := []) (c_X9_copyRow (a := 23) (b := 352) (n := 20) (pm_set μ 351 0 (μ.1 22 0)) rfl rfl (by decide)) cal_X9_copyRow (by decide +kernel) (by decide +kernel) (by decide +kernel) rfl rfl (Nat.le_of_ble_eq_true rfl) (by decide) (by decide) ?_
  rintro _ μ1 ⟨rfl, e1⟩
  show pm_V _ _ _ _ 19 _ [] _
  refine pm_bl [(.aload_n 1, 1, 1, 0, 0), (.getfield 19, 3, 0, 2, 0), (.aload_n 0, 1, 0, 0, 0), (.getfield 19, 3, 0, 2, 0)] (pc1 := 27) (lo1 := [some (.ref 351), some (.ref 22)]) (st1 := [.ref 353, .ref 24]) (μ1 := μ1) (vc := True) rfl (by decide +kernel) rfl trivial ?_
  refine pm_callSN2 mi_X9_copyRow (ix := 25) (host := RX9) (kc2 := 0) (ks2 := 0) (As := [.ref 24, .ref 353]) (rest := []) (c_X9_copyRow (a := 24) (b := 353) (n := 20) μ1 rfl rfl (by decide)) cal_X9_copyRow (by decide +kernel) (by decide +kernel) (by decide +kernel) rfl rfl (Nat.le_of_ble_eq_true rfl) (by decide) (by decide) ?_
  rintro _ μ2 ⟨rfl, e2⟩
  show pm_V _ _ _ _ 30 _ [] _
  refine pm_bl [(.aload_n 1, 1, 1, 0, 0), (.getfield 22, 3, 0, 3, 0), (.aload_n 0, 1, 0, 0, 0), (.getfield 22, 3, 0, 3, 0)] (pc1 := 38) (lo1 := [some (.ref 351), some (.ref 22)]) (st1 := [.ref 354, .ref 25]) (μ1 := μ2) (vc := True) rfl (by decide +kernel) rfl trivial ?_
  refine pm_callSN2 mi_X9_copyRow (ix := 25) (host := RX9) (kc2 := 0) (ks2 := 0) (As := [.ref 25, .ref 354]) (rest := []) (c_X9_copyRow (a := 25) (b := 354) (n := 20) μ2 rfl rfl (by decide)) cal_X9_copyRow (by decide +kernel) (by decide +kernel) (by decide +kernel) rfl rfl (Nat.le_of_ble_eq_true rfl) (by decide) (by decide) ?_
  rintro _ μ3 ⟨rfl, e3⟩
  show pm_V _ _ _ _ 41 _ [] _
  exact pm_vret rfl (by decide) (by decide) (by decide +kernel) (by
    subst e1; subst e2; subst e3
    refine ⟨rfl, rfl, fun i hi => by rw [pm_row_off (by omega), pm_row_off (by omega), pm_row_off (by omega), pm_set_off (by omega)], lr_Ra.mv (b := 1) (b2 := 330) hX hn (by simp only [Nat.reduceAdd]; rw [pm_row_off (by decide), pm_row_off (by decide), pm_row_off (by decide), pm_set_hit]) (fun k i h1 h2 h3 => ?_) (fun _ _ _ => rfl)⟩
    rcases (show k = 22 ∨ k = 23 ∨ k = 24 by omega) with rfl | rfl | rfl
    · simp only [Nat.reduceAdd]; rw [pm_row_off (by decide), pm_row_off (by decide), pm_row_at]; unfold va_cpy; rw [if_pos (by omega), pm_set_off (by decide), show 0 + (i - 0) = i from by omega]
    · simp only [Nat.reduceAdd]; rw [pm_row_off (by decide), pm_row_at]; unfold va_cpy; rw [if_pos (by omega), pm_row_off (by decide), pm_set_off (by decide), show 0 + (i - 0) = i from by omega]
    · simp only [Nat.reduceAdd]; rw [pm_row_at]; unfold va_cpy; rw [if_pos (by omega), pm_row_off (by decide), pm_row_off (by decide), pm_set_off (by decide), show 0 + (i - 0) = i from by omega])
set_option maxHeartbeats 4000000 in
set_option maxRecDepth 100000 in
theorem c_X4_copyFrom_330_1 {g : Nat → Int32} (μ : pm_Mm) (hX : lr_Rl μ.1 1 g) (hn : lr_n g 289 ≤ 30) : pm_CT mi_X4_copyFrom [.ref 355, .ref 26] μ (fun v μ2 => v = none ∧ μ2.2 = μ.2 ∧ (∀ i, (i < 355 ∨ 367 < i) → μ2.1 i = μ.1 i) ∧ lr_Rl μ2.1 330 g) pm_NX := by
  refine pm_CT_of (lo := [some (.ref 355), some (.ref 26)]) (by decide +kernel) rfl rfl (by intro v hv; simp at hv; rcases hv with rfl | rfl <;> rfl) (Nat.le_of_ble_eq_true rfl) rfl ?_
  refine pm_bl [(.aload_n 0, 1, 0, 0, 0), (.aload_n 1, 1, 1, 0, 0), (.getfield 9, 3, 4, 0, 0), (.putfield 9, 3, 4, 0, 0), (.aload_n 0, 1, 0, 0, 0), (.aload_n 1, 1, 1, 0, 0), (.getfield 15, 3, 4, 1, 0), (.putfield 15, 3, 4, 1, 0), (.aload_n 1, 1, 1, 0, 0), (.getfield 18, 3, 4, 2, 0), (.aload_n 0, 1, 0, 0, 0), (.getfield 18, 3, 4, 2, 0)] (pc1 := 24) (lo1 := [some (.ref 355), some (.ref 26)]) (st1 := [.ref 356, .ref 27]) (μ1 := pm_set (pm_set μ 355 0 (μ.1 26 0)) 355 1 ((pm_set μ 355 0 (μ.1 26 0)).1 26 1)) (vc := True) rfl (by decide +kernel) rfl trivial ?_
  rw [show (pm_set μ 355 0 (μ.1 26 0)).1 26 1 = μ.1 26 1 from by simp [pm_set]]
  refine pm_callSN2 mi_X9_copyRow (ix := 55) (host := RX9) (kc2 := 0) (ks2 := 0) (As := [.ref 27, .ref 356]) (rest := []) (c_X9_copyRow (a := 27) (b := 356) (n := 30) (pm_set (pm_set μ 355 0 (μ.1 26 0)) 355 1 (μ.1 26 1)) rfl rfl (by decide)) cal_X9_copyRow (by decide +kernel) (by decide +kernel) (by decide +kernel) rfl rfl (Nat.le_of_ble_eq_true rfl) (by decide) (by decide) ?_
  rintro _ μ1 ⟨rfl, e1⟩
  show pm_V _ _ _ _ 27 _ [] _
  refine pm_bl [(.aload_n 1, 1, 1, 0, 0), (.getfield 22, 3, 4, 3, 0), (.aload_n 0, 1, 0, 0, 0), (.getfield 22, 3, 4, 3, 0)] (pc1 := 35) (lo1 := [some (.ref 355), some (.ref 26)]) (st1 := [.ref 357, .ref 28]) (μ1 := μ1) (vc := True) rfl (by decide +kernel) rfl trivial ?_
  refine pm_callSN2 mi_X9_copyRow (ix := 55) (host := RX9) (kc2 := 0) (ks2 := 0) (As := [.ref 28, .ref 357]) (rest := []) (c_X9_copyRow (a := 28) (b := 357) (n := 30) μ1 rfl rfl (by decide)) cal_X9_copyRow (by decide +kernel) (by decide +kernel) (by decide +kernel) rfl rfl (Nat.le_of_ble_eq_true rfl) (by decide) (by decide) ?_
  rintro _ μ2 ⟨rfl, e2⟩
  show pm_V _ _ _ _ 38 _ [] _
  refine pm_bl [(.aload_n 1, 1, 1, 0, 0), (.getfield 25, 3, 4, 4, 0), (.aload_n 0, 1, 0, 0, 0), (.getfield 25, 3, 4, 4, 0)] (pc1 := 46) (lo1 := [some (.ref 355), some (.ref 26)]) (st1 := [.ref 358, .ref 29]) (μ1 := μ2) (vc := True) rfl (by decide +kernel) rfl trivial ?_
  refine pm_callSN2 mi_X9_copyRow (ix := 55) (host := RX9) (kc2 := 0) (ks2 := 0) (As := [.ref 29, .ref 358]) (rest := []) (c_X9_copyRow (a := 29) (b := 358) (n := 30) μ2 rfl rfl (by decide)) cal_X9_copyRow (by decide +kernel) (by decide +kernel) (by decide +kernel) rfl rfl (Nat.le_of_ble_eq_true rfl) (by decide) (by decide) ?_
  rintro _ μ3 ⟨rfl, e3⟩
  show pm_V _ _ _ _ 49 _ [] _
  refine pm_bl [(.aload_n 1, 1, 1, 0, 0), (.getfield 28, 3, 4, 5, 0), (.aload_n 0, 1, 0, 0, 0), (.getfield 28, 3, 4, 5, 0)] (pc1 := 57) (lo1 := [some (.ref 355), some (.ref 26)]) (st1 := [.ref 359, .ref 30]) (μ1 := μ3) (vc := True) rfl (by decide +kernel) rfl trivial ?_
  refine pm_callSN2 mi_X9_copyRow (ix := 55) (host := RX9) (kc2 := 0) (ks2 := 0) (As := [.ref 30, .ref 359]) (rest := []) (c_X9_copyRow (a := 30) (b := 359) (n := 30) μ3 rfl rfl (by decide)) cal_X9_copyRow (by decide +kernel) (by decide +kernel) (by decide +kernel) rfl rfl (Nat.le_of_ble_eq_true rfl) (by decide) (by decide) ?_
  rintro _ μ4 ⟨rfl, e4⟩
  show pm_V _ _ _ _ 60 _ [] _
  refine pm_bl [(.aload_n 1, 1, 1, 0, 0), (.getfield 31, 3, 4, 6, 0), (.aload_n 0, 1, 0, 0, 0), (.getfield 31, 3, 4, 6, 0)] (pc1 := 68) (lo1 := [some (.ref 355), some (.ref 26)]) (st1 := [.ref 360, .ref 31]) (μ1 := μ4) (vc := True) rfl (by decide +kernel) rfl trivial ?_
  refine pm_callSN2 mi_X9_copyRow (ix := 55) (host := RX9) (kc2 := 0) (ks2 := 0) (As := [.ref 31, .ref 360]) (rest := []) (c_X9_copyRow (a := 31) (b := 360) (n := 30) μ4 rfl rfl (by decide)) cal_X9_copyRow (by decide +kernel) (by decide +kernel) (by decide +kernel) rfl rfl (Nat.le_of_ble_eq_true rfl) (by decide) (by decide) ?_
  rintro _ μ5 ⟨rfl, e5⟩
  show pm_V _ _ _ _ 71 _ [] _
  refine pm_bl [(.aload_n 1, 1, 1, 0, 0), (.getfield 34, 3, 4, 7, 0), (.aload_n 0, 1, 0, 0, 0), (.getfield 34, 3, 4, 7, 0)] (pc1 := 79) (lo1 := [some (.ref 355), some (.ref 26)]) (st1 := [.ref 361, .ref 32]) (μ1 := μ5) (vc := True) rfl (by decide +kernel) rfl trivial ?_
  refine pm_callSN2 mi_X9_copyRow (ix := 55) (host := RX9) (kc2 := 0) (ks2 := 0) (As := [.ref 32, .ref 361]) (rest := []) (c_X9_copyRow (a := 32) (b := 361) (n := 30) μ5 rfl rfl (by decide)) cal_X9_copyRow (by decide +kernel) (by decide +kernel) (by decide +kernel) rfl rfl (Nat.le_of_ble_eq_true rfl) (by decide) (by decide) ?_
  rintro _ μ6 ⟨rfl, e6⟩
  show pm_V _ _ _ _ 82 _ [] _
  refine pm_bl [(.aload_n 1, 1, 1, 0, 0), (.getfield 37, 3, 4, 8, 0), (.aload_n 0, 1, 0, 0, 0), (.getfield 37, 3, 4, 8, 0)] (pc1 := 90) (lo1 := [some (.ref 355), some (.ref 26)]) (st1 := [.ref 362, .ref 33]) (μ1 := μ6) (vc := True) rfl (by decide +kernel) rfl trivial ?_
  refine pm_callSN2 mi_X9_copyRow (ix := 55) (host := RX9) (kc2 := 0) (ks2 := 0) (As := [.ref 33, .ref 362]) (rest := []) (c_X9_copyRow (a := 33) (b := 362) (n := 30) μ6 rfl rfl (by decide)) cal_X9_copyRow (by decide +kernel) (by decide +kernel) (by decide +kernel) rfl rfl (Nat.le_of_ble_eq_true rfl) (by decide) (by decide) ?_
  rintro _ μ7 ⟨rfl, e7⟩
  show pm_V _ _ _ _ 93 _ [] _
  refine pm_bl [(.aload_n 1, 1, 1, 0, 0), (.getfield 40, 3, 4, 9, 0), (.aload_n 0, 1, 0, 0, 0), (.getfield 40, 3, 4, 9, 0)] (pc1 := 101) (lo1 := [some (.ref 355), some (.ref 26)]) (st1 := [.ref 363, .ref 34]) (μ1 := μ7) (vc := True) rfl (by decide +kernel) rfl trivial ?_
  refine pm_callSN2 mi_X9_copyRow (ix := 55) (host := RX9) (kc2 := 0) (ks2 := 0) (As := [.ref 34, .ref 363]) (rest := []) (c_X9_copyRow (a := 34) (b := 363) (n := 30) μ7 rfl rfl (by decide)) cal_X9_copyRow (by decide +kernel) (by decide +kernel) (by decide +kernel) rfl rfl (Nat.le_of_ble_eq_true rfl) (by decide) (by decide) ?_
  rintro _ μ8 ⟨rfl, e8⟩
  show pm_V _ _ _ _ 104 _ [] _
  refine pm_bl [(.aload_n 1, 1, 1, 0, 0), (.getfield 43, 3, 4, 10, 0), (.aload_n 0, 1, 0, 0, 0), (.getfield 43, 3, 4, 10, 0)] (pc1 := 112) (lo1 := [some (.ref 355), some (.ref 26)]) (st1 := [.ref 364, .ref 35]) (μ1 := μ8) (vc := True) rfl (by decide +kernel) rfl trivial ?_
  refine pm_callSN2 mi_X9_copyRow (ix := 55) (host := RX9) (kc2 := 0) (ks2 := 0) (As := [.ref 35, .ref 364]) (rest := []) (c_X9_copyRow (a := 35) (b := 364) (n := 30) μ8 rfl rfl (by decide)) cal_X9_copyRow (by decide +kernel) (by decide +kernel) (by decide +kernel) rfl rfl (Nat.le_of_ble_eq_true rfl) (by decide) (by decide) ?_
  rintro _ μ9 ⟨rfl, e9⟩
  show pm_V _ _ _ _ 115 _ [] _
  refine pm_bl [(.aload_n 1, 1, 1, 0, 0), (.getfield 46, 3, 4, 11, 0), (.aload_n 0, 1, 0, 0, 0), (.getfield 46, 3, 4, 11, 0)] (pc1 := 123) (lo1 := [some (.ref 355), some (.ref 26)]) (st1 := [.ref 365, .ref 36]) (μ1 := μ9) (vc := True) rfl (by decide +kernel) rfl trivial ?_
  refine pm_callSN2 mi_X9_copyRow (ix := 55) (host := RX9) (kc2 := 0) (ks2 := 0) (As := [.ref 36, .ref 365]) (rest := []) (c_X9_copyRow (a := 36) (b := 365) (n := 30) μ9 rfl rfl (by decide)) cal_X9_copyRow (by decide +kernel) (by decide +kernel) (by decide +kernel) rfl rfl (Nat.le_of_ble_eq_true rfl) (by decide) (by decide) ?_
  rintro _ μ10 ⟨rfl, e10⟩
  show pm_V _ _ _ _ 126 _ [] _
  refine pm_bl [(.aload_n 1, 1, 1, 0, 0), (.getfield 49, 3, 4, 12, 0), (.aload_n 0, 1, 0, 0, 0), (.getfield 49, 3, 4, 12, 0)] (pc1 := 134) (lo1 := [some (.ref 355), some (.ref 26)]) (st1 := [.ref 366, .ref 37]) (μ1 := μ10) (vc := True) rfl (by decide +kernel) rfl trivial ?_
  refine pm_callSN2 mi_X9_copyRow (ix := 55) (host := RX9) (kc2 := 0) (ks2 := 0) (As := [.ref 37, .ref 366]) (rest := []) (c_X9_copyRow (a := 37) (b := 366) (n := 30) μ10 rfl rfl (by decide)) cal_X9_copyRow (by decide +kernel) (by decide +kernel) (by decide +kernel) rfl rfl (Nat.le_of_ble_eq_true rfl) (by decide) (by decide) ?_
  rintro _ μ11 ⟨rfl, e11⟩
  show pm_V _ _ _ _ 137 _ [] _
  refine pm_bl [(.aload_n 1, 1, 1, 0, 0), (.getfield 52, 3, 4, 13, 0), (.aload_n 0, 1, 0, 0, 0), (.getfield 52, 3, 4, 13, 0)] (pc1 := 145) (lo1 := [some (.ref 355), some (.ref 26)]) (st1 := [.ref 367, .ref 38]) (μ1 := μ11) (vc := True) rfl (by decide +kernel) rfl trivial ?_
  refine pm_callSN2 mi_X9_copyRow (ix := 55) (host := RX9) (kc2 := 0) (ks2 := 0) (As := [.ref 38, .ref 367]) (rest := []) (c_X9_copyRow (a := 38) (b := 367) (n := 30) μ11 rfl rfl (by decide)) cal_X9_copyRow (by decide +kernel) (by decide +kernel) (by decide +kernel) rfl rfl (Nat.le_of_ble_eq_true rfl) (by decide) (by decide) ?_
  rintro _ μ12 ⟨rfl, e12⟩
  show pm_V _ _ _ _ 148 _ [] _
  exact pm_vret rfl (by decide) (by decide) (by decide +kernel) (by
    subst e1; subst e2; subst e3; subst e4; subst e5; subst e6; subst e7; subst e8; subst e9; subst e10; subst e11; subst e12
    refine ⟨rfl, rfl, fun i hi => by rw [pm_row_off (by omega), pm_row_off (by omega), pm_row_off (by omega), pm_row_off (by omega), pm_row_off (by omega), pm_row_off (by omega), pm_row_off (by omega), pm_row_off (by omega), pm_row_off (by omega), pm_row_off (by omega), pm_row_off (by omega), pm_row_off (by omega), pm_set_off (by omega), pm_set_off (by omega)], lr_Rl.mv (b := 1) (b2 := 330) hX hn (by simp only [Nat.reduceAdd]; rw [pm_row_off (by decide), pm_row_off (by decide), pm_row_off (by decide), pm_row_off (by decide), pm_row_off (by decide), pm_row_off (by decide), pm_row_off (by decide), pm_row_off (by decide), pm_row_off (by decide), pm_row_off (by decide), pm_row_off (by decide), pm_row_off (by decide), pm_set_miss (Or.inr (by decide)), pm_set_hit]) (by simp only [Nat.reduceAdd]; rw [pm_row_off (by decide), pm_row_off (by decide), pm_row_off (by decide), pm_row_off (by decide), pm_row_off (by decide), pm_row_off (by decide), pm_row_off (by decide), pm_row_off (by decide), pm_row_off (by decide), pm_row_off (by decide), pm_row_off (by decide), pm_row_off (by decide), pm_set_hit]) (fun k i h1 h2 h3 => ?_) (fun _ _ _ => rfl) rfl⟩
    rcases (show k = 26 ∨ k = 27 ∨ k = 28 ∨ k = 29 ∨ k = 30 ∨ k = 31 ∨ k = 32 ∨ k = 33 ∨ k = 34 ∨ k = 35 ∨ k = 36 ∨ k = 37 by omega) with rfl | rfl | rfl | rfl | rfl | rfl | rfl | rfl | rfl | rfl | rfl | rfl
    · simp only [Nat.reduceAdd]; rw [pm_row_off (by decide), pm_row_off (by decide), pm_row_off (by decide), pm_row_off (by decide), pm_row_off (by decide), pm_row_off (by decide), pm_row_off (by decide), pm_row_off (by decide), pm_row_off (by decide), pm_row_off (by decide), pm_row_off (by decide), pm_row_at]; unfold va_cpy; rw [if_pos (by omega), pm_set_off (by decide), pm_set_off (by decide), show 0 + (i - 0) = i from by omega]
    · simp only [Nat.reduceAdd]; rw [pm_row_off (by decide), pm_row_off (by decide), pm_row_off (by decide), pm_row_off (by decide), pm_row_off (by decide), pm_row_off (by decide), pm_row_off (by decide), pm_row_off (by decide), pm_row_off (by decide), pm_row_off (by decide), pm_row_at]; unfold va_cpy; rw [if_pos (by omega), pm_row_off (by decide), pm_set_off (by decide), pm_set_off (by decide), show 0 + (i - 0) = i from by omega]
    · simp only [Nat.reduceAdd]; rw [pm_row_off (by decide), pm_row_off (by decide), pm_row_off (by decide), pm_row_off (by decide), pm_row_off (by decide), pm_row_off (by decide), pm_row_off (by decide), pm_row_off (by decide), pm_row_off (by decide), pm_row_at]; unfold va_cpy; rw [if_pos (by omega), pm_row_off (by decide), pm_row_off (by decide), pm_set_off (by decide), pm_set_off (by decide), show 0 + (i - 0) = i from by omega]
    · simp only [Nat.reduceAdd]; rw [pm_row_off (by decide), pm_row_off (by decide), pm_row_off (by decide), pm_row_off (by decide), pm_row_off (by decide), pm_row_off (by decide), pm_row_off (by decide), pm_row_off (by decide), pm_row_at]; unfold va_cpy; rw [if_pos (by omega), pm_row_off (by decide), pm_row_off (by decide), pm_row_off (by decide), pm_set_off (by decide), pm_set_off (by decide), show 0 + (i - 0) = i from by omega]
    · simp only [Nat.reduceAdd]; rw [pm_row_off (by decide), pm_row_off (by decide), pm_row_off (by decide), pm_row_off (by decide), pm_row_off (by decide), pm_row_off (by decide), pm_row_off (by decide), pm_row_at]; unfold va_cpy; rw [if_pos (by omega), pm_row_off (by decide), pm_row_off (by decide), pm_row_off (by decide), pm_row_off (by decide), pm_set_off (by decide), pm_set_off (by decide), show 0 + (i - 0) = i from by omega]
    · simp only [Nat.reduceAdd]; rw [pm_row_off (by decide), pm_row_off (by decide), pm_row_off (by decide), pm_row_off (by decide), pm_row_off (by decide), pm_row_off (by decide), pm_row_at]; unfold va_cpy; rw [if_pos (by omega), pm_row_off (by decide), pm_row_off (by decide), pm_row_off (by decide), pm_row_off (by decide), pm_row_off (by decide), pm_set_off (by decide), pm_set_off (by decide), show 0 + (i - 0) = i from by omega]
    · simp only [Nat.reduceAdd]; rw [pm_row_off (by decide), pm_row_off (by decide), pm_row_off (by decide), pm_row_off (by decide), pm_row_off (by decide), pm_row_at]; unfold va_cpy; rw [if_pos (by omega), pm_row_off (by decide), pm_row_off (by decide), pm_row_off (by decide), pm_row_off (by decide), pm_row_off (by decide), pm_row_off (by decide), pm_set_off (by decide), pm_set_off (by decide), show 0 + (i - 0) = i from by omega]
    · simp only [Nat.reduceAdd]; rw [pm_row_off (by decide), pm_row_off (by decide), pm_row_off (by decide), pm_row_off (by decide), pm_row_at]; unfold va_cpy; rw [if_pos (by omega), pm_row_off (by decide), pm_row_off (by decide), pm_row_off (by decide), pm_row_off (by decide), pm_row_off (by decide), pm_row_off (by decide), pm_row_off (by decide), pm_set_off (by decide), pm_set_off (by decide), show 0 + (i - 0) = i from by omega]
    · simp only [Nat.reduceAdd]; rw [pm_row_off (by decide), pm_row_off (by decide), pm_row_off (by decide), pm_row_at]; unfold va_cpy; rw [if_pos (by omega), pm_row_off (by decide), pm_row_off (by decide), pm_row_off (by decide), pm_row_off (by decide), pm_row_off (by decide), pm_row_off (by decide), pm_row_off (by decide), pm_row_off (by decide), pm_set_off (by decide), pm_set_off (by decide), show 0 + (i - 0) = i from by omega]
    · simp only [Nat.reduceAdd]; rw [pm_row_off (by decide), pm_row_off (by decide), pm_row_at]; unfold va_cpy; rw [if_pos (by omega), pm_row_off (by decide), pm_row_off (by decide), pm_row_off (by decide), pm_row_off (by decide), pm_row_off (by decide), pm_row_off (by decide), pm_row_off (by decide), pm_row_off (by decide), pm_row_off (by decide), pm_set_off (by decide), pm_set_off (by decide), show 0 + (i - 0) = i from by omega]
    · simp only [Nat.reduceAdd]; rw [pm_row_off (by decide), pm_row_at]; unfold va_cpy; rw [if_pos (by omega), pm_row_off (by decide), pm_row_off (by decide), pm_row_off (by decide), pm_row_off (by decide), pm_row_off (by decide), pm_row_off (by decide), pm_row_off (by decide), pm_row_off (by decide), pm_row_off (by decide), pm_row_off (by decide), pm_set_off (by decide), pm_set_off (by decide), show 0 + (i - 0) = i from by omega]
    · simp only [Nat.reduceAdd]; rw [pm_row_at]; unfold va_cpy; rw [if_pos (by omega), pm_row_off (by decide), pm_row_off (by decide), pm_row_off (by decide), pm_row_off (by decide), pm_row_off (by decide), pm_row_off (by decide), pm_row_off (by decide), pm_row_off (by decide), pm_row_off (by decide), pm_row_off (by decide), pm_row_off (by decide), pm_set_off (by decide), pm_set_off (by decide), show 0 + (i - 0) = i from by omega])
set_option maxHeartbeats 4000000 in
set_option maxRecDepth 100000 in
theorem c_X5_copyFrom_330_1 {g : Nat → Int32} (μ : pm_Mm) (hR : lr_Rel μ.1 1 g) (hB : lr_B g) : pm_CT mi_X5_copyFrom [.ref 330, .ref 1] μ (fun v μ2 => v = none ∧ μ2.2 = μ.2 ∧ (∀ i, (i < 330 ∨ 368 < i) → μ2.1 i = μ.1 i) ∧ lr_Rel μ2.1 330 g) pm_NX := by
  refine pm_CT_of (lo := [some (.ref 330), some (.ref 1)]) (by decide +kernel) rfl rfl (by intro v hv; simp at hv; rcases hv with rfl | rfl <;> rfl) (Nat.le_of_ble_eq_true rfl) rfl ?_
  obtain ⟨hm1, hm3, hm2, hm4, hm5, hm6⟩ := id hB
  refine pm_bl [(.aload_n 0, 1, 0, 0, 0), (.getfield 12, 3, 5, 0, 0), (.aload_n 1, 1, 1, 0, 0), (.getfield 12, 3, 5, 0, 0)] (pc1 := 8) (lo1 := [some (.ref 330), some (.ref 1)]) (st1 := [.ref 2, .ref 331]) (μ1 := μ) (vc := True) rfl (by decide +kernel) rfl trivial ?_
  refine pm_callV2 mi_X3_copyFrom (ix := 61) (b := 331) (ci := 3) (kc2 := 0) (ks2 := 0) (As := [.ref 2]) (rest := []) (c_X3_copyFrom_330_1 μ hR.2.1 hm1) cal_X3_copyFrom lk5_61 (by decide +kernel) rfl (by decide +kernel) rfl rfl rfl rfl (Nat.le_of_ble_eq_true rfl) (by decide) (by decide) (fun _ _ h9 => h9.elim) ?_
  rintro _ μ1 ⟨rfl, x1, f1, r1⟩
  show pm_V _ _ _ _ 11 _ [] _
  refine pm_bl [(.aload_n 0, 1, 0, 0, 0), (.getfield 21, 3, 5, 1, 0), (.aload_n 1, 1, 1, 0, 0), (.getfield 21, 3, 5, 1, 0)] (pc1 := 19) (lo1 := [some (.ref 330), some (.ref 1)]) (st1 := [.ref 5, .ref 334]) (μ1 := μ1) (vc := True) rfl (by decide +kernel) rfl trivial ?_
  refine pm_callV2 mi_X6_copyFrom (ix := 65) (b := 334) (ci := 6) (kc2 := 0) (ks2 := 0) (As := [.ref 5]) (rest := []) (c_X6_copyFrom_330_1 μ1 (lr_Rp.st (b := 1) hR.2.2.1 hm3 (fun k h1 h2 => by rw [f1 _ (by omega)]) (fun _ _ _ => rfl)) hm3) cal_X6_copyFrom lk5_65 (by decide +kernel) rfl (by decide +kernel) rfl rfl rfl rfl (Nat.le_of_ble_eq_true rfl) (by decide) (by decide) (fun _ _ h9 => h9.elim) ?_
  rintro _ μ2 ⟨rfl, x2, f2, r2⟩
  show pm_V _ _ _ _ 22 _ [] _
  refine pm_bl [(.aload_n 0, 1, 0, 0, 0), (.getfield 28, 3, 5, 2, 0), (.aload_n 1, 1, 1, 0, 0), (.getfield 28, 3, 5, 2, 0)] (pc1 := 30) (lo1 := [some (.ref 330), some (.ref 1)]) (st1 := [.ref 10, .ref 339]) (μ1 := μ2) (vc := True) rfl (by decide +kernel) rfl trivial ?_
  refine pm_callV2 mi_X8_copyFrom (ix := 68) (b := 339) (ci := 8) (kc2 := 0) (ks2 := 0) (As := [.ref 10]) (rest := []) (c_X8_copyFrom_330_1 μ2 (lr_Rw.st (b := 1) hR.2.2.2.1 hm2 (fun k h1 h2 => by rw [f2 _ (by omega), f1 _ (by omega)]) (fun _ _ _ => rfl)) hm2) cal_X8_copyFrom lk5_68 (by decide +kernel) rfl (by decide +kernel) rfl rfl rfl rfl (Nat.le_of_ble_eq_true rfl) (by decide) (by decide) (fun _ _ h9 => h9.elim) ?_
  rintro _ μ3 ⟨rfl, x3, f3, r3⟩
  show pm_V _ _ _ _ 33 _ [] _
  refine pm_bl [(.aload_n 0, 1, 0, 0, 0), (.getfield 35, 3, 5, 3, 0), (.aload_n 1, 1, 1, 0, 0), (.getfield 35, 3, 5, 3, 0)] (pc1 := 41) (lo1 := [some (.ref 330), some (.ref 1)]) (st1 := [.ref 16, .ref 345]) (μ1 := μ3) (vc := True) rfl (by decide +kernel) rfl trivial ?_
  refine pm_callV2 mi_X7_copyFrom (ix := 71) (b := 345) (ci := 7) (kc2 := 0) (ks2 := 0) (As := [.ref 16]) (rest := []) (c_X7_copyFrom_330_1 μ3 (lr_Rr.st (b := 1) hR.2.2.2.2.1 hm4 (fun k h1 h2 => by rw [f3 _ (by omega), f2 _ (by omega), f1 _ (by omega)]) (fun _ _ _ => rfl)) hm4) cal_X7_copyFrom lk5_71 (by decide +kernel) rfl (by decide +kernel) rfl rfl rfl rfl (Nat.le_of_ble_eq_true rfl) (by decide) (by decide) (fun _ _ h9 => h9.elim) ?_
  rintro _ μ4 ⟨rfl, x4, f4, r4⟩
  show pm_V _ _ _ _ 44 _ [] _
  refine pm_bl [(.aload_n 0, 1, 0, 0, 0), (.getfield 42, 3, 5, 4, 0), (.aload_n 1, 1, 1, 0, 0), (.getfield 42, 3, 5, 4, 0)] (pc1 := 52) (lo1 := [some (.ref 330), some (.ref 1)]) (st1 := [.ref 22, .ref 351]) (μ1 := μ4) (vc := True) rfl (by decide +kernel) rfl trivial ?_
  refine pm_callV2 mi_X0_copyFrom (ix := 74) (b := 351) (ci := 0) (kc2 := 0) (ks2 := 0) (As := [.ref 22]) (rest := []) (c_X0_copyFrom_330_1 μ4 (lr_Ra.st (b := 1) hR.2.2.2.2.2.1 hm5 (fun k h1 h2 => by rw [f4 _ (by omega), f3 _ (by omega), f2 _ (by omega), f1 _ (by omega)]) (fun _ _ _ => rfl)) hm5) cal_X0_copyFrom lk5_74 (by decide +kernel) rfl (by decide +kernel) rfl rfl rfl rfl (Nat.le_of_ble_eq_true rfl) (by decide) (by decide) (fun _ _ h9 => h9.elim) ?_
  rintro _ μ5 ⟨rfl, x5, f5, r5⟩
  show pm_V _ _ _ _ 55 _ [] _
  refine pm_bl [(.aload_n 0, 1, 0, 0, 0), (.getfield 49, 3, 5, 5, 0), (.aload_n 1, 1, 1, 0, 0), (.getfield 49, 3, 5, 5, 0)] (pc1 := 63) (lo1 := [some (.ref 330), some (.ref 1)]) (st1 := [.ref 26, .ref 355]) (μ1 := μ5) (vc := True) rfl (by decide +kernel) rfl trivial ?_
  refine pm_callV2 mi_X4_copyFrom (ix := 77) (b := 355) (ci := 4) (kc2 := 0) (ks2 := 0) (As := [.ref 26]) (rest := []) (c_X4_copyFrom_330_1 μ5 (lr_Rl.st (b := 1) hR.2.2.2.2.2.2 hm6 (fun k h1 h2 => by rw [f5 _ (by omega), f4 _ (by omega), f3 _ (by omega), f2 _ (by omega), f1 _ (by omega)]) rfl (fun _ _ _ => rfl)) hm6) cal_X4_copyFrom lk5_77 (by decide +kernel) rfl (by decide +kernel) rfl rfl rfl rfl (Nat.le_of_ble_eq_true rfl) (by decide) (by decide) (fun _ _ h9 => h9.elim) ?_
  rintro _ μ6 ⟨rfl, x6, f6, r6⟩
  show pm_V _ _ _ _ 66 _ [] _
  refine pm_bl [(.aload_n 0, 1, 0, 0, 0), (.aload_n 1, 1, 1, 0, 0), (.getfield 53, 3, 5, 6, 0), (.putfield 53, 3, 5, 6, 0)] (pc1 := 74) (lo1 := [some (.ref 330), some (.ref 1)]) (st1 := []) (μ1 := pm_set μ6 330 6 (μ6.1 1 6)) (vc := True) rfl (by decide +kernel) rfl trivial ?_
  exact pm_vret rfl (by decide) (by decide) (by decide +kernel) (⟨rfl, (x6.trans (x5.trans (x4.trans (x3.trans (x2.trans x1))))), fun i hi => by rw [pm_set_off (by omega), f6 _ (by omega), f5 _ (by omega), f4 _ (by omega), f3 _ (by omega), f2 _ (by omega), f1 _ (by omega)], by rw [pm_set_hit, f6 _ (by omega), f5 _ (by omega), f4 _ (by omega), f3 _ (by omega), f2 _ (by omega), f1 _ (by omega)]; exact hR.1, lr_Rh.st (b := 330) r1 hm1 (fun k h1 h2 => by rw [pm_set_off (by omega), f6 _ (by omega), f5 _ (by omega), f4 _ (by omega), f3 _ (by omega), f2 _ (by omega)]) (fun _ _ _ => rfl), lr_Rp.st (b := 330) r2 hm3 (fun k h1 h2 => by rw [pm_set_off (by omega), f6 _ (by omega), f5 _ (by omega), f4 _ (by omega), f3 _ (by omega)]) (fun _ _ _ => rfl), lr_Rw.st (b := 330) r3 hm2 (fun k h1 h2 => by rw [pm_set_off (by omega), f6 _ (by omega), f5 _ (by omega), f4 _ (by omega)]) (fun _ _ _ => rfl), lr_Rr.st (b := 330) r4 hm4 (fun k h1 h2 => by rw [pm_set_off (by omega), f6 _ (by omega), f5 _ (by omega)]) (fun _ _ _ => rfl), lr_Ra.st (b := 330) r5 hm5 (fun k h1 h2 => by rw [pm_set_off (by omega), f6 _ (by omega)]) (fun _ _ _ => rfl), lr_Rl.st (b := 330) r6 hm6 (fun k h1 h2 => by rw [pm_set_off (by omega)]) rfl (fun _ _ _ => rfl)⟩)
set_option maxHeartbeats 4000000 in
set_option maxRecDepth 100000 in
theorem c_X3_copyFrom_369_1 {g : Nat → Int32} (μ : pm_Mm) (hX : lr_Rh μ.1 1 g) (hn : lr_n g 2 ≤ 16) : pm_CT mi_X3_copyFrom [.ref 370, .ref 2] μ (fun v μ2 => v = none ∧ μ2.2 = μ.2 ∧ (∀ i, (i < 370 ∨ 372 < i) → μ2.1 i = μ.1 i) ∧ lr_Rh μ2.1 369 g) pm_NX := by
  refine pm_CT_of (lo := [some (.ref 370), some (.ref 2)]) (by decide +kernel) rfl rfl (by intro v hv; simp at hv; rcases hv with rfl | rfl <;> rfl) (Nat.le_of_ble_eq_true rfl) rfl ?_
  refine pm_bl [(.aload_n 0, 1, 0, 0, 0), (.aload_n 1, 1, 1, 0, 0), (.getfield 9, 3, 3, 0, 0), (.putfield 9, 3, 3, 0, 0), (.aload_n 1, 1, 1, 0, 0), (.getfield 15, 3, 3, 1, 0), (.aload_n 0, 1, 0, 0, 0), (.getfield 15, 3, 3, 1, 0)] (pc1 := 16) (lo1 := [some (.ref 370), some (.ref 2)]) (st1 := [.ref 371, .ref 3]) (μ1 := pm_set μ 370 0 (μ.1 2 0)) (vc := True) rfl (by decide +kernel) rfl trivial ?_
  refine pm_callSN2 mi_X9_copyRow (ix := 22) (host := RX9) (kc2 := 0) (ks2 := 0) (As := [.ref 3, .ref 371]) (rest := []) (c_X9_copyRow (a := 3) (b := 371) (n := 16) (pm_set μ 370 0 (μ.1 2 0)) rfl rfl (by decide)) cal_X9_copyRow (by decide +kernel) (by decide +kernel) (by decide +kernel) rfl rfl (Nat.le_of_ble_eq_true rfl) (by decide) (by decide) ?_
  rintro _ μ1 ⟨rfl, e1⟩
  show pm_V _ _ _ _ 19 _ [] _
  refine pm_bl [(.aload_n 1, 1, 1, 0, 0), (.getfield 19, 3, 3, 2, 0), (.aload_n 0, 1, 0, 0, 0), (.getfield 19, 3, 3, 2, 0)] (pc1 := 27) (lo1 := [some (.ref 370), some (.ref 2)]) (st1 := [.ref 372, .ref 4]) (μ1 := μ1) (vc := True) rfl (by decide +kernel) rfl trivial ?_
  refine pm_callSN2 mi_X9_copyRow (ix := 22) (host := RX9) (kc2 := 0) (ks2 := 0) (As := [.ref 4, .ref 372]) (rest := []) (c_X9_copyRow (a := 4) (b := 372) (n := 16) μ1 rfl rfl (by decide)) cal_X9_copyRow (by decide +kernel) (by decide +kernel) (by decide +kernel) rfl rfl (Nat.le_of_ble_eq_true rfl) (by decide) (by decide) ?_
  rintro _ μ2 ⟨rfl, e2⟩
  show pm_V _ _ _ _ 30 _ [] _
  exact pm_vret rfl (by decide) (by decide) (by decide +kernel) (by
    subst e1; subst e2
    refine ⟨rfl, rfl, fun i hi => by rw [pm_row_off (by omega), pm_row_off (by omega), pm_set_off (by omega)], lr_Rh.mv (b := 1) (b2 := 369) hX hn (by simp only [Nat.reduceAdd]; rw [pm_row_off (by decide), pm_row_off (by decide), pm_set_hit]) (fun k i h1 h2 h3 => ?_) (fun _ _ _ => rfl)⟩
    rcases (show k = 2 ∨ k = 3 by omega) with rfl | rfl
    · simp only [Nat.reduceAdd]; rw [pm_row_off (by decide), pm_row_at]; unfold va_cpy; rw [if_pos (by omega), pm_set_off (by decide), show 0 + (i - 0) = i from by omega]
    · simp only [Nat.reduceAdd]; rw [pm_row_at]; unfold va_cpy; rw [if_pos (by omega), pm_row_off (by decide), pm_set_off (by decide), show 0 + (i - 0) = i from by omega])
set_option maxHeartbeats 4000000 in
set_option maxRecDepth 100000 in
theorem c_X6_copyFrom_369_1 {g : Nat → Int32} (μ : pm_Mm) (hX : lr_Rp μ.1 1 g) (hn : lr_n g 35 ≤ 20) : pm_CT mi_X6_copyFrom [.ref 373, .ref 5] μ (fun v μ2 => v = none ∧ μ2.2 = μ.2 ∧ (∀ i, (i < 373 ∨ 377 < i) → μ2.1 i = μ.1 i) ∧ lr_Rp μ2.1 369 g) pm_NX := by
  refine pm_CT_of (lo := [some (.ref 373), some (.ref 5)]) (by decide +kernel) rfl rfl (by intro v hv; simp at hv; rcases hv with rfl | rfl <;> rfl) (Nat.le_of_ble_eq_true rfl) rfl ?_
  refine pm_bl [(.aload_n 0, 1, 0, 0, 0), (.aload_n 1, 1, 1, 0, 0), (.getfield 9, 3, 6, 0, 0), (.putfield 9, 3, 6, 0, 0), (.aload_n 1, 1, 1, 0, 0), (.getfield 15, 3, 6, 1, 0), (.aload_n 0, 1, 0, 0, 0), (.getfield 15, 3, 6, 1, 0)] (pc1 := 16) (lo1 := [some (.ref 373), some (.ref 5)]) (st1 := [.ref 374, .ref 6]) (μ1 := pm_set μ 373 0 (μ.1 5 0)) (vc := True) rfl (by decide +kernel) rfl trivial ?_
  refine pm_callSN2 mi_X9_copyRow (ix := 28) (host := RX9) (kc2 := 0) (ks2 := 0) (As := [.ref 6, .ref 374]) (rest := []) (c_X9_copyRow (a := 6) (b := 374) (n := 20) (pm_set μ 373 0 (μ.1 5 0)) rfl rfl (by decide)) cal_X9_copyRow (by decide +kernel) (by decide +kernel) (by decide +kernel) rfl rfl (Nat.le_of_ble_eq_true rfl) (by decide) (by decide) ?_
  rintro _ μ1 ⟨rfl, e1⟩
  show pm_V _ _ _ _ 19 _ [] _
  refine pm_bl [(.aload_n 1, 1, 1, 0, 0), (.getfield 19, 3, 6, 2, 0), (.aload_n 0, 1, 0, 0, 0), (.getfield 19, 3, 6, 2, 0)] (pc1 := 27) (lo1 := [some (.ref 373), some (.ref 5)]) (st1 := [.ref 375, .ref 7]) (μ1 := μ1) (vc := True) rfl (by decide +kernel) rfl trivial ?_
  refine pm_callSN2 mi_X9_copyRow (ix := 28) (host := RX9) (kc2 := 0) (ks2 := 0) (As := [.ref 7, .ref 375]) (rest := []) (c_X9_copyRow (a := 7) (b := 375) (n := 20) μ1 rfl rfl (by decide)) cal_X9_copyRow (by decide +kernel) (by decide +kernel) (by decide +kernel) rfl rfl (Nat.le_of_ble_eq_true rfl) (by decide) (by decide) ?_
  rintro _ μ2 ⟨rfl, e2⟩
  show pm_V _ _ _ _ 30 _ [] _
  refine pm_bl [(.aload_n 1, 1, 1, 0, 0), (.getfield 22, 3, 6, 3, 0), (.aload_n 0, 1, 0, 0, 0), (.getfield 22, 3, 6, 3, 0)] (pc1 := 38) (lo1 := [some (.ref 373), some (.ref 5)]) (st1 := [.ref 376, .ref 8]) (μ1 := μ2) (vc := True) rfl (by decide +kernel) rfl trivial ?_
  refine pm_callSN2 mi_X9_copyRow (ix := 28) (host := RX9) (kc2 := 0) (ks2 := 0) (As := [.ref 8, .ref 376]) (rest := []) (c_X9_copyRow (a := 8) (b := 376) (n := 20) μ2 rfl rfl (by decide)) cal_X9_copyRow (by decide +kernel) (by decide +kernel) (by decide +kernel) rfl rfl (Nat.le_of_ble_eq_true rfl) (by decide) (by decide) ?_
  rintro _ μ3 ⟨rfl, e3⟩
  show pm_V _ _ _ _ 41 _ [] _
  refine pm_bl [(.aload_n 1, 1, 1, 0, 0), (.getfield 25, 3, 6, 4, 0), (.aload_n 0, 1, 0, 0, 0), (.getfield 25, 3, 6, 4, 0)] (pc1 := 49) (lo1 := [some (.ref 373), some (.ref 5)]) (st1 := [.ref 377, .ref 9]) (μ1 := μ3) (vc := True) rfl (by decide +kernel) rfl trivial ?_
  refine pm_callSN2 mi_X9_copyRow (ix := 28) (host := RX9) (kc2 := 0) (ks2 := 0) (As := [.ref 9, .ref 377]) (rest := []) (c_X9_copyRow (a := 9) (b := 377) (n := 20) μ3 rfl rfl (by decide)) cal_X9_copyRow (by decide +kernel) (by decide +kernel) (by decide +kernel) rfl rfl (Nat.le_of_ble_eq_true rfl) (by decide) (by decide) ?_
  rintro _ μ4 ⟨rfl, e4⟩
  show pm_V _ _ _ _ 52 _ [] _
  exact pm_vret rfl (by decide) (by decide) (by decide +kernel) (by
    subst e1; subst e2; subst e3; subst e4
    refine ⟨rfl, rfl, fun i hi => by rw [pm_row_off (by omega), pm_row_off (by omega), pm_row_off (by omega), pm_row_off (by omega), pm_set_off (by omega)], lr_Rp.mv (b := 1) (b2 := 369) hX hn (by simp only [Nat.reduceAdd]; rw [pm_row_off (by decide), pm_row_off (by decide), pm_row_off (by decide), pm_row_off (by decide), pm_set_hit]) (fun k i h1 h2 h3 => ?_) (fun _ _ _ => rfl)⟩
    rcases (show k = 5 ∨ k = 6 ∨ k = 7 ∨ k = 8 by omega) with rfl | rfl | rfl | rfl
    · simp only [Nat.reduceAdd]; rw [pm_row_off (by decide), pm_row_off (by decide), pm_row_off (by decide), pm_row_at]; unfold va_cpy; rw [if_pos (by omega), pm_set_off (by decide), show 0 + (i - 0) = i from by omega]
    · simp only [Nat.reduceAdd]; rw [pm_row_off (by decide), pm_row_off (by decide), pm_row_at]; unfold va_cpy; rw [if_pos (by omega), pm_row_off (by decide), pm_set_off (by decide), show 0 + (i - 0) = i from by omega]
    · simp only [Nat.reduceAdd]; rw [pm_row_off (by decide), pm_row_at]; unfold va_cpy; rw [if_pos (by omega), pm_row_off (by decide), pm_row_off (by decide), pm_set_off (by decide), show 0 + (i - 0) = i from by omega]
    · simp only [Nat.reduceAdd]; rw [pm_row_at]; unfold va_cpy; rw [if_pos (by omega), pm_row_off (by decide), pm_row_off (by decide), pm_row_off (by decide), pm_set_off (by decide), show 0 + (i - 0) = i from by omega])
set_option maxHeartbeats 4000000 in
set_option maxRecDepth 100000 in
theorem c_X8_copyFrom_369_1 {g : Nat → Int32} (μ : pm_Mm) (hX : lr_Rw μ.1 1 g) (hn : lr_n g 116 ≤ 10) : pm_CT mi_X8_copyFrom [.ref 378, .ref 10] μ (fun v μ2 => v = none ∧ μ2.2 = μ.2 ∧ (∀ i, (i < 378 ∨ 383 < i) → μ2.1 i = μ.1 i) ∧ lr_Rw μ2.1 369 g) pm_NX := by
  refine pm_CT_of (lo := [some (.ref 378), some (.ref 10)]) (by decide +kernel) rfl rfl (by intro v hv; simp at hv; rcases hv with rfl | rfl <;> rfl) (Nat.le_of_ble_eq_true rfl) rfl ?_
  refine pm_bl [(.aload_n 0, 1, 0, 0, 0), (.aload_n 1, 1, 1, 0, 0), (.getfield 9, 3, 8, 0, 0), (.putfield 9, 3, 8, 0, 0), (.aload_n 1, 1, 1, 0, 0), (.getfield 15, 3, 8, 1, 0), (.aload_n 0, 1, 0, 0, 0), (.getfield 15, 3, 8, 1, 0)] (pc1 := 16) (lo1 := [some (.ref 378), some (.ref 10)]) (st1 := [.ref 379, .ref 11]) (μ1 := pm_set μ 378 0 (μ.1 10 0)) (vc := True) rfl (by decide +kernel) rfl trivial ?_
  refine pm_callSN2 mi_X9_copyRow (ix := 31) (host := RX9) (kc2 := 0) (ks2 := 0) (As := [.ref 11, .ref 379]) (rest := []) (c_X9_copyRow (a := 11) (b := 379) (n := 10) (pm_set μ 378 0 (μ.1 10 0)) rfl rfl (by decide)) cal_X9_copyRow (by decide +kernel) (by decide +kernel) (by decide +kernel) rfl rfl (Nat.le_of_ble_eq_true rfl) (by decide) (by decide) ?_
  rintro _ μ1 ⟨rfl, e1⟩
  show pm_V _ _ _ _ 19 _ [] _
  refine pm_bl [(.aload_n 1, 1, 1, 0, 0), (.getfield 19, 3, 8, 2, 0), (.aload_n 0, 1, 0, 0, 0), (.getfield 19, 3, 8, 2, 0)] (pc1 := 27) (lo1 := [some (.ref 378), some (.ref 10)]) (st1 := [.ref 380, .ref 12]) (μ1 := μ1) (vc := True) rfl (by decide +kernel) rfl trivial ?_
  refine pm_callSN2 mi_X9_copyRow (ix := 31) (host := RX9) (kc2 := 0) (ks2 := 0) (As := [.ref 12, .ref 380]) (rest := []) (c_X9_copyRow (a := 12) (b := 380) (n := 10) μ1 rfl rfl (by decide)) cal_X9_copyRow (by decide +kernel) (by decide +kernel) (by decide +kernel) rfl rfl (Nat.le_of_ble_eq_true rfl) (by decide) (by decide) ?_
  rintro _ μ2 ⟨rfl, e2⟩
  show pm_V _ _ _ _ 30 _ [] _
  refine pm_bl [(.aload_n 1, 1, 1, 0, 0), (.getfield 22, 3, 8, 3, 0), (.aload_n 0, 1, 0, 0, 0), (.getfield 22, 3, 8, 3, 0)] (pc1 := 38) (lo1 := [some (.ref 378), some (.ref 10)]) (st1 := [.ref 381, .ref 13]) (μ1 := μ2) (vc := True) rfl (by decide +kernel) rfl trivial ?_
  refine pm_callSN2 mi_X9_copyRow (ix := 31) (host := RX9) (kc2 := 0) (ks2 := 0) (As := [.ref 13, .ref 381]) (rest := []) (c_X9_copyRow (a := 13) (b := 381) (n := 10) μ2 rfl rfl (by decide)) cal_X9_copyRow (by decide +kernel) (by decide +kernel) (by decide +kernel) rfl rfl (Nat.le_of_ble_eq_true rfl) (by decide) (by decide) ?_
  rintro _ μ3 ⟨rfl, e3⟩
  show pm_V _ _ _ _ 41 _ [] _
  refine pm_bl [(.aload_n 1, 1, 1, 0, 0), (.getfield 25, 3, 8, 4, 0), (.aload_n 0, 1, 0, 0, 0), (.getfield 25, 3, 8, 4, 0)] (pc1 := 49) (lo1 := [some (.ref 378), some (.ref 10)]) (st1 := [.ref 382, .ref 14]) (μ1 := μ3) (vc := True) rfl (by decide +kernel) rfl trivial ?_
  refine pm_callSN2 mi_X9_copyRow (ix := 31) (host := RX9) (kc2 := 0) (ks2 := 0) (As := [.ref 14, .ref 382]) (rest := []) (c_X9_copyRow (a := 14) (b := 382) (n := 10) μ3 rfl rfl (by decide)) cal_X9_copyRow (by decide +kernel) (by decide +kernel) (by decide +kernel) rfl rfl (Nat.le_of_ble_eq_true rfl) (by decide) (by decide) ?_
  rintro _ μ4 ⟨rfl, e4⟩
  show pm_V _ _ _ _ 52 _ [] _
  refine pm_bl [(.aload_n 1, 1, 1, 0, 0), (.getfield 28, 3, 8, 5, 0), (.aload_n 0, 1, 0, 0, 0), (.getfield 28, 3, 8, 5, 0)] (pc1 := 60) (lo1 := [some (.ref 378), some (.ref 10)]) (st1 := [.ref 383, .ref 15]) (μ1 := μ4) (vc := True) rfl (by decide +kernel) rfl trivial ?_
  refine pm_callSN2 mi_X9_copyRow (ix := 31) (host := RX9) (kc2 := 0) (ks2 := 0) (As := [.ref 15, .ref 383]) (rest := []) (c_X9_copyRow (a := 15) (b := 383) (n := 10) μ4 rfl rfl (by decide)) cal_X9_copyRow (by decide +kernel) (by decide +kernel) (by decide +kernel) rfl rfl (Nat.le_of_ble_eq_true rfl) (by decide) (by decide) ?_
  rintro _ μ5 ⟨rfl, e5⟩
  show pm_V _ _ _ _ 63 _ [] _
  exact pm_vret rfl (by decide) (by decide) (by decide +kernel) (by
    subst e1; subst e2; subst e3; subst e4; subst e5
    refine ⟨rfl, rfl, fun i hi => by rw [pm_row_off (by omega), pm_row_off (by omega), pm_row_off (by omega), pm_row_off (by omega), pm_row_off (by omega), pm_set_off (by omega)], lr_Rw.mv (b := 1) (b2 := 369) hX hn (by simp only [Nat.reduceAdd]; rw [pm_row_off (by decide), pm_row_off (by decide), pm_row_off (by decide), pm_row_off (by decide), pm_row_off (by decide), pm_set_hit]) (fun k i h1 h2 h3 => ?_) (fun _ _ _ => rfl)⟩
    rcases (show k = 10 ∨ k = 11 ∨ k = 12 ∨ k = 13 ∨ k = 14 by omega) with rfl | rfl | rfl | rfl | rfl
    · simp only [Nat.reduceAdd]; rw [pm_row_off (by decide), pm_row_off (by decide), pm_row_off (by decide), pm_row_off (by decide), pm_row_at]; unfold va_cpy; rw [if_pos (by omega), pm_set_off (by decide), show 0 + (i - 0) = i from by omega]
    · simp only [Nat.reduceAdd]; rw [pm_row_off (by decide), pm_row_off (by decide), pm_row_off (by decide), pm_row_at]; unfold va_cpy; rw [if_pos (by omega), pm_row_off (by decide), pm_set_off (by decide), show 0 + (i - 0) = i from by omega]
    · simp only [Nat.reduceAdd]; rw [pm_row_off (by decide), pm_row_off (by decide), pm_row_at]; unfold va_cpy; rw [if_pos (by omega), pm_row_off (by decide), pm_row_off (by decide), pm_set_off (by decide), show 0 + (i - 0) = i from by omega]
    · simp only [Nat.reduceAdd]; rw [pm_row_off (by decide), pm_row_at]; unfold va_cpy; rw [if_pos (by omega), pm_row_off (by decide), pm_row_off (by decide), pm_row_off (by decide), pm_set_off (by decide), show 0 + (i - 0) = i from by omega]
    · simp only [Nat.reduceAdd]; rw [pm_row_at]; unfold va_cpy; rw [if_pos (by omega), pm_row_off (by decide), pm_row_off (by decide), pm_row_off (by decide), pm_row_off (by decide), pm_set_off (by decide), show 0 + (i - 0) = i from by omega])
set_option maxHeartbeats 4000000 in
set_option maxRecDepth 100000 in
theorem c_X7_copyFrom_369_1 {g : Nat → Int32} (μ : pm_Mm) (hX : lr_Rr μ.1 1 g) (hn : lr_n g 167 ≤ 12) : pm_CT mi_X7_copyFrom [.ref 384, .ref 16] μ (fun v μ2 => v = none ∧ μ2.2 = μ.2 ∧ (∀ i, (i < 384 ∨ 389 < i) → μ2.1 i = μ.1 i) ∧ lr_Rr μ2.1 369 g) pm_NX := by
  refine pm_CT_of (lo := [some (.ref 384), some (.ref 16)]) (by decide +kernel) rfl rfl (by intro v hv; simp at hv; rcases hv with rfl | rfl <;> rfl) (Nat.le_of_ble_eq_true rfl) rfl ?_
  refine pm_bl [(.aload_n 0, 1, 0, 0, 0), (.aload_n 1, 1, 1, 0, 0), (.getfield 9, 3, 7, 0, 0), (.putfield 9, 3, 7, 0, 0), (.aload_n 1, 1, 1, 0, 0), (.getfield 15, 3, 7, 1, 0), (.aload_n 0, 1, 0, 0, 0), (.getfield 15, 3, 7, 1, 0)] (pc1 := 16) (lo1 := [some (.ref 384), some (.ref 16)]) (st1 := [.ref 385, .ref 17]) (μ1 := pm_set μ 384 0 (μ.1 16 0)) (vc := True) rfl (by decide +kernel) rfl trivial ?_
  refine pm_callSN2 mi_X9_copyRow (ix := 31) (host := RX9) (kc2 := 0) (ks2 := 0) (As := [.ref 17, .ref 385]) (rest := []) (c_X9_copyRow (a := 17) (b := 385) (n := 12) (pm_set μ 384 0 (μ.1 16 0)) rfl rfl (by decide)) cal_X9_copyRow (by decide +kernel) (by decide +kernel) (by decide +kernel) rfl rfl (Nat.le_of_ble_eq_true rfl) (by decide) (by decide) ?_
  rintro _ μ1 ⟨rfl, e1⟩
  show pm_V _ _ _ _ 19 _ [] _
  refine pm_bl [(.aload_n 1, 1, 1, 0, 0), (.getfield 19, 3, 7, 2, 0), (.aload_n 0, 1, 0, 0, 0), (.getfield 19, 3, 7, 2, 0)] (pc1 := 27) (lo1 := [some (.ref 384), some (.ref 16)]) (st1 := [.ref 386, .ref 18]) (μ1 := μ1) (vc := True) rfl (by decide +kernel) rfl trivial ?_
  refine pm_callSN2 mi_X9_copyRow (ix := 31) (host := RX9) (kc2 := 0) (ks2 := 0) (As := [.ref 18, .ref 386]) (rest := []) (c_X9_copyRow (a := 18) (b := 386) (n := 12) μ1 rfl rfl (by decide)) cal_X9_copyRow (by decide +kernel) (by decide +kernel) (by decide +kernel) rfl rfl (Nat.le_of_ble_eq_true rfl) (by decide) (by decide) ?_
  rintro _ μ2 ⟨rfl, e2⟩
  show pm_V _ _ _ _ 30 _ [] _
  refine pm_bl [(.aload_n 1, 1, 1, 0, 0), (.getfield 22, 3, 7, 3, 0), (.aload_n 0, 1, 0, 0, 0), (.getfield 22, 3, 7, 3, 0)] (pc1 := 38) (lo1 := [some (.ref 384), some (.ref 16)]) (st1 := [.ref 387, .ref 19]) (μ1 := μ2) (vc := True) rfl (by decide +kernel) rfl trivial ?_
  refine pm_callSN2 mi_X9_copyRow (ix := 31) (host := RX9) (kc2 := 0) (ks2 := 0) (As := [.ref 19, .ref 387]) (rest := []) (c_X9_copyRow (a := 19) (b := 387) (n := 12) μ2 rfl rfl (by decide)) cal_X9_copyRow (by decide +kernel) (by decide +kernel) (by decide +kernel) rfl rfl (Nat.le_of_ble_eq_true rfl) (by decide) (by decide) ?_
  rintro _ μ3 ⟨rfl, e3⟩
  show pm_V _ _ _ _ 41 _ [] _
  refine pm_bl [(.aload_n 1, 1, 1, 0, 0), (.getfield 25, 3, 7, 4, 0), (.aload_n 0, 1, 0, 0, 0), (.getfield 25, 3, 7, 4, 0)] (pc1 := 49) (lo1 := [some (.ref 384), some (.ref 16)]) (st1 := [.ref 388, .ref 20]) (μ1 := μ3) (vc := True) rfl (by decide +kernel) rfl trivial ?_
  refine pm_callSN2 mi_X9_copyRow (ix := 31) (host := RX9) (kc2 := 0) (ks2 := 0) (As := [.ref 20, .ref 388]) (rest := []) (c_X9_copyRow (a := 20) (b := 388) (n := 12) μ3 rfl rfl (by decide)) cal_X9_copyRow (by decide +kernel) (by decide +kernel) (by decide +kernel) rfl rfl (Nat.le_of_ble_eq_true rfl) (by decide) (by decide) ?_
  rintro _ μ4 ⟨rfl, e4⟩
  show pm_V _ _ _ _ 52 _ [] _
  refine pm_bl [(.aload_n 1, 1, 1, 0, 0), (.getfield 28, 3, 7, 5, 0), (.aload_n 0, 1, 0, 0, 0), (.getfield 28, 3, 7, 5, 0)] (pc1 := 60) (lo1 := [some (.ref 384), some (.ref 16)]) (st1 := [.ref 389, .ref 21]) (μ1 := μ4) (vc := True) rfl (by decide +kernel) rfl trivial ?_
  refine pm_callSN2 mi_X9_copyRow (ix := 31) (host := RX9) (kc2 := 0) (ks2 := 0) (As := [.ref 21, .ref 389]) (rest := []) (c_X9_copyRow (a := 21) (b := 389) (n := 12) μ4 rfl rfl (by decide)) cal_X9_copyRow (by decide +kernel) (by decide +kernel) (by decide +kernel) rfl rfl (Nat.le_of_ble_eq_true rfl) (by decide) (by decide) ?_
  rintro _ μ5 ⟨rfl, e5⟩
  show pm_V _ _ _ _ 63 _ [] _
  exact pm_vret rfl (by decide) (by decide) (by decide +kernel) (by
    subst e1; subst e2; subst e3; subst e4; subst e5
    refine ⟨rfl, rfl, fun i hi => by rw [pm_row_off (by omega), pm_row_off (by omega), pm_row_off (by omega), pm_row_off (by omega), pm_row_off (by omega), pm_set_off (by omega)], lr_Rr.mv (b := 1) (b2 := 369) hX hn (by simp only [Nat.reduceAdd]; rw [pm_row_off (by decide), pm_row_off (by decide), pm_row_off (by decide), pm_row_off (by decide), pm_row_off (by decide), pm_set_hit]) (fun k i h1 h2 h3 => ?_) (fun _ _ _ => rfl)⟩
    rcases (show k = 16 ∨ k = 17 ∨ k = 18 ∨ k = 19 ∨ k = 20 by omega) with rfl | rfl | rfl | rfl | rfl
    · simp only [Nat.reduceAdd]; rw [pm_row_off (by decide), pm_row_off (by decide), pm_row_off (by decide), pm_row_off (by decide), pm_row_at]; unfold va_cpy; rw [if_pos (by omega), pm_set_off (by decide), show 0 + (i - 0) = i from by omega]
    · simp only [Nat.reduceAdd]; rw [pm_row_off (by decide), pm_row_off (by decide), pm_row_off (by decide), pm_row_at]; unfold va_cpy; rw [if_pos (by omega), pm_row_off (by decide), pm_set_off (by decide), show 0 + (i - 0) = i from by omega]
    · simp only [Nat.reduceAdd]; rw [pm_row_off (by decide), pm_row_off (by decide), pm_row_at]; unfold va_cpy; rw [if_pos (by omega), pm_row_off (by decide), pm_row_off (by decide), pm_set_off (by decide), show 0 + (i - 0) = i from by omega]
    · simp only [Nat.reduceAdd]; rw [pm_row_off (by decide), pm_row_at]; unfold va_cpy; rw [if_pos (by omega), pm_row_off (by decide), pm_row_off (by decide), pm_row_off (by decide), pm_set_off (by decide), show 0 + (i - 0) = i from by omega]
    · simp only [Nat.reduceAdd]; rw [pm_row_at]; unfold va_cpy; rw [if_pos (by omega), pm_row_off (by decide), pm_row_off (by decide), pm_row_off (by decide), pm_row_off (by decide), pm_set_off (by decide), show 0 + (i - 0) = i from by omega])
set_option maxHeartbeats 4000000 in
set_option maxRecDepth 100000 in
theorem c_X0_copyFrom_369_1 {g : Nat → Int32} (μ : pm_Mm) (hX : lr_Ra μ.1 1 g) (hn : lr_n g 228 ≤ 20) : pm_CT mi_X0_copyFrom [.ref 390, .ref 22] μ (fun v μ2 => v = none ∧ μ2.2 = μ.2 ∧ (∀ i, (i < 390 ∨ 393 < i) → μ2.1 i = μ.1 i) ∧ lr_Ra μ2.1 369 g) pm_NX := by
  refine pm_CT_of (lo := [some (.ref 390), some (.ref 22)]) (by decide +kernel) rfl rfl (by intro v hv; simp at hv; rcases hv with rfl | rfl <;> rfl) (Nat.le_of_ble_eq_true rfl) rfl ?_
  refine pm_bl [(.aload_n 0, 1, 0, 0, 0), (.aload_n 1, 1, 1, 0, 0), (.getfield 9, 3, 0, 0, 0), (.putfield 9, 3, 0, 0, 0), (.aload_n 1, 1, 1, 0, 0), (.getfield 15, 3, 0, 1, 0), (.aload_n 0, 1, 0, 0, 0), (.getfield 15, 3, 0, 1, 0)] (pc1 := 16) (lo1 := [some (.ref 390), some (.ref 22)]) (st1 := [.ref 391, .ref 23]) (μ1 := pm_set μ 390 0 (μ.1 22 0)) (vc := True) rfl (by decide +kernel) rfl trivial ?_
  refine pm_callSN2 mi_X9_copyRow (ix := 25) (host := RX9) (kc2 := 0) (ks2 := 0) (As := [.ref 23, .ref 391]) (rest := []) (c_X9_copyRow (a := 23) (b := 391) (n := 20) (pm_set μ 390 0 (μ.1 22 0)) rfl rfl (by decide)) cal_X9_copyRow (by decide +kernel) (by decide +kernel) (by decide +kernel) rfl rfl (Nat.le_of_ble_eq_true rfl) (by decide) (by decide) ?_
  rintro _ μ1 ⟨rfl, e1⟩
  show pm_V _ _ _ _ 19 _ [] _
  refine pm_bl [(.aload_n 1, 1, 1, 0, 0), (.getfield 19, 3, 0, 2, 0), (.aload_n 0, 1, 0, 0, 0), (.getfield 19, 3, 0, 2, 0)] (pc1 := 27) (lo1 := [some (.ref 390), some (.ref 22)]) (st1 := [.ref 392, .ref 24]) (μ1 := μ1) (vc := True) rfl (by decide +kernel) rfl trivial ?_
  refine pm_callSN2 mi_X9_copyRow (ix := 25) (host := RX9) (kc2 := 0) (ks2 := 0) (As := [.ref 24, .ref 392]) (rest := []) (c_X9_copyRow (a := 24) (b := 392) (n := 20) μ1 rfl rfl (by decide)) cal_X9_copyRow (by decide +kernel) (by decide +kernel) (by decide +kernel) rfl rfl (Nat.le_of_ble_eq_true rfl) (by decide) (by decide) ?_
  rintro _ μ2 ⟨rfl, e2⟩
  show pm_V _ _ _ _ 30 _ [] _
  refine pm_bl [(.aload_n 1, 1, 1, 0, 0), (.getfield 22, 3, 0, 3, 0), (.aload_n 0, 1, 0, 0, 0), (.getfield 22, 3, 0, 3, 0)] (pc1 := 38) (lo1 := [some (.ref 390), some (.ref 22)]) (st1 := [.ref 393, .ref 25]) (μ1 := μ2) (vc := True) rfl (by decide +kernel) rfl trivial ?_
  refine pm_callSN2 mi_X9_copyRow (ix := 25) (host := RX9) (kc2 := 0) (ks2 := 0) (As := [.ref 25, .ref 393]) (rest := []) (c_X9_copyRow (a := 25) (b := 393) (n := 20) μ2 rfl rfl (by decide)) cal_X9_copyRow (by decide +kernel) (by decide +kernel) (by decide +kernel) rfl rfl (Nat.le_of_ble_eq_true rfl) (by decide) (by decide) ?_
  rintro _ μ3 ⟨rfl, e3⟩
  show pm_V _ _ _ _ 41 _ [] _
  exact pm_vret rfl (by decide) (by decide) (by decide +kernel) (by
    subst e1; subst e2; subst e3
    refine ⟨rfl, rfl, fun i hi => by rw [pm_row_off (by omega), pm_row_off (by omega), pm_row_off (by omega), pm_set_off (by omega)], lr_Ra.mv (b := 1) (b2 := 369) hX hn (by simp only [Nat.reduceAdd]; rw [pm_row_off (by decide), pm_row_off (by decide), pm_row_off (by decide), pm_set_hit]) (fun k i h1 h2 h3 => ?_) (fun _ _ _ => rfl)⟩
    rcases (show k = 22 ∨ k = 23 ∨ k = 24 by omega) with rfl | rfl | rfl
    · simp only [Nat.reduceAdd]; rw [pm_row_off (by decide), pm_row_off (by decide), pm_row_at]; unfold va_cpy; rw [if_pos (by omega), pm_set_off (by decide), show 0 + (i - 0) = i from by omega]
    · simp only [Nat.reduceAdd]; rw [pm_row_off (by decide), pm_row_at]; unfold va_cpy; rw [if_pos (by omega), pm_row_off (by decide), pm_set_off (by decide), show 0 + (i - 0) = i from by omega]
    · simp only [Nat.reduceAdd]; rw [pm_row_at]; unfold va_cpy; rw [if_pos (by omega), pm_row_off (by decide), pm_row_off (by decide), pm_set_off (by decide), show 0 + (i - 0) = i from by omega])
set_option maxHeartbeats 4000000 in
set_option maxRecDepth 100000 in
theorem c_X4_copyFrom_369_1 {g : Nat → Int32} (μ : pm_Mm) (hX : lr_Rl μ.1 1 g) (hn : lr_n g 289 ≤ 30) : pm_CT mi_X4_copyFrom [.ref 394, .ref 26] μ (fun v μ2 => v = none ∧ μ2.2 = μ.2 ∧ (∀ i, (i < 394 ∨ 406 < i) → μ2.1 i = μ.1 i) ∧ lr_Rl μ2.1 369 g) pm_NX := by
  refine pm_CT_of (lo := [some (.ref 394), some (.ref 26)]) (by decide +kernel) rfl rfl (by intro v hv; simp at hv; rcases hv with rfl | rfl <;> rfl) (Nat.le_of_ble_eq_true rfl) rfl ?_
  refine pm_bl [(.aload_n 0, 1, 0, 0, 0), (.aload_n 1, 1, 1, 0, 0), (.getfield 9, 3, 4, 0, 0), (.putfield 9, 3, 4, 0, 0), (.aload_n 0, 1, 0, 0, 0), (.aload_n 1, 1, 1, 0, 0), (.getfield 15, 3, 4, 1, 0), (.putfield 15, 3, 4, 1, 0), (.aload_n 1, 1, 1, 0, 0), (.getfield 18, 3, 4, 2, 0), (.aload_n 0, 1, 0, 0, 0), (.getfield 18, 3, 4, 2, 0)] (pc1 := 24) (lo1 := [some (.ref 394), some (.ref 26)]) (st1 := [.ref 395, .ref 27]) (μ1 := pm_set (pm_set μ 394 0 (μ.1 26 0)) 394 1 ((pm_set μ 394 0 (μ.1 26 0)).1 26 1)) (vc := True) rfl (by decide +kernel) rfl trivial ?_
  rw [show (pm_set μ 394 0 (μ.1 26 0)).1 26 1 = μ.1 26 1 from by simp [pm_set]]
  refine pm_callSN2 mi_X9_copyRow (ix := 55) (host := RX9) (kc2 := 0) (ks2 := 0) (As := [.ref 27, .ref 395]) (rest := []) (c_X9_copyRow (a := 27) (b := 395) (n := 30) (pm_set (pm_set μ 394 0 (μ.1 26 0)) 394 1 (μ.1 26 1)) rfl rfl (by decide)) cal_X9_copyRow (by decide +kernel) (by decide +kernel) (by decide +kernel) rfl rfl (Nat.le_of_ble_eq_true rfl) (by decide) (by decide) ?_
  rintro _ μ1 ⟨rfl, e1⟩
  show pm_V _ _ _ _ 27 _ [] _
  refine pm_bl [(.aload_n 1, 1, 1, 0, 0), (.getfield 22, 3, 4, 3, 0), (.aload_n 0, 1, 0, 0, 0), (.getfield 22, 3, 4, 3, 0)] (pc1 := 35) (lo1 := [some (.ref 394), some (.ref 26)]) (st1 := [.ref 396, .ref 28]) (μ1 := μ1) (vc := True) rfl (by decide +kernel) rfl trivial ?_
  refine pm_callSN2 mi_X9_copyRow (ix := 55) (host := RX9) (kc2 := 0) (ks2 := 0) (As := [.ref 28, .ref 396]) (rest := []) (c_X9_copyRow (a := 28) (b := 396) (n := 30) μ1 rfl rfl (by decide)) cal_X9_copyRow (by decide +kernel) (by decide +kernel) (by decide +kernel) rfl rfl (Nat.le_of_ble_eq_true rfl) (by decide) (by decide) ?_
  rintro _ μ2 ⟨rfl, e2⟩
  show pm_V _ _ _ _ 38 _ [] _
  refine pm_bl [(.aload_n 1, 1, 1, 0, 0), (.getfield 25, 3, 4, 4, 0), (.aload_n 0, 1, 0, 0, 0), (.getfield 25, 3, 4, 4, 0)] (pc1 := 46) (lo1 := [some (.ref 394), some (.ref 26)]) (st1 := [.ref 397, .ref 29]) (μ1 := μ2) (vc := True) rfl (by decide +kernel) rfl trivial ?_
  refine pm_callSN2 mi_X9_copyRow (ix := 55) (host := RX9) (kc2 := 0) (ks2 := 0) (As := [.ref 29, .ref 397]) (rest := []) (c_X9_copyRow (a := 29) (b := 397) (n := 30) μ2 rfl rfl (by decide)) cal_X9_copyRow (by decide +kernel) (by decide +kernel) (by decide +kernel) rfl rfl (Nat.le_of_ble_eq_true rfl) (by decide) (by decide) ?_
  rintro _ μ3 ⟨rfl, e3⟩
  show pm_V _ _ _ _ 49 _ [] _
  refine pm_bl [(.aload_n 1, 1, 1, 0, 0), (.getfield 28, 3, 4, 5, 0), (.aload_n 0, 1, 0, 0, 0), (.getfield 28, 3, 4, 5, 0)] (pc1 := 57) (lo1 := [some (.ref 394), some (.ref 26)]) (st1 := [.ref 398, .ref 30]) (μ1 := μ3) (vc := True) rfl (by decide +kernel) rfl trivial ?_
  refine pm_callSN2 mi_X9_copyRow (ix := 55) (host := RX9) (kc2 := 0) (ks2 := 0) (As := [.ref 30, .ref 398]) (rest := []) (c_X9_copyRow (a := 30) (b := 398) (n := 30) μ3 rfl rfl (by decide)) cal_X9_copyRow (by decide +kernel) (by decide +kernel) (by decide +kernel) rfl rfl (Nat.le_of_ble_eq_true rfl) (by decide) (by decide) ?_
  rintro _ μ4 ⟨rfl, e4⟩
  show pm_V _ _ _ _ 60 _ [] _
  refine pm_bl [(.aload_n 1, 1, 1, 0, 0), (.getfield 31, 3, 4, 6, 0), (.aload_n 0, 1, 0, 0, 0), (.getfield 31, 3, 4, 6, 0)] (pc1 := 68) (lo1 := [some (.ref 394), some (.ref 26)]) (st1 := [.ref 399, .ref 31]) (μ1 := μ4) (vc := True) rfl (by decide +kernel) rfl trivial ?_
  refine pm_callSN2 mi_X9_copyRow (ix := 55) (host := RX9) (kc2 := 0) (ks2 := 0) (As := [.ref 31, .ref 399]) (rest := []) (c_X9_copyRow (a := 31) (b := 399) (n := 30) μ4 rfl rfl (by decide)) cal_X9_copyRow (by decide +kernel) (by decide +kernel) (by decide +kernel) rfl rfl (Nat.le_of_ble_eq_true rfl) (by decide) (by decide) ?_
  rintro _ μ5 ⟨rfl, e5⟩
  show pm_V _ _ _ _ 71 _ [] _
  refine pm_bl [(.aload_n 1, 1, 1, 0, 0), (.getfield 34, 3, 4, 7, 0), (.aload_n 0, 1, 0, 0, 0), (.getfield 34, 3, 4, 7, 0)] (pc1 := 79) (lo1 := [some (.ref 394), some (.ref 26)]) (st1 := [.ref 400, .ref 32]) (μ1 := μ5) (vc := True) rfl (by decide +kernel) rfl trivial ?_
  refine pm_callSN2 mi_X9_copyRow (ix := 55) (host := RX9) (kc2 := 0) (ks2 := 0) (As := [.ref 32, .ref 400]) (rest := []) (c_X9_copyRow (a := 32) (b := 400) (n := 30) μ5 rfl rfl (by decide)) cal_X9_copyRow (by decide +kernel) (by decide +kernel) (by decide +kernel) rfl rfl (Nat.le_of_ble_eq_true rfl) (by decide) (by decide) ?_
  rintro _ μ6 ⟨rfl, e6⟩
  show pm_V _ _ _ _ 82 _ [] _
  refine pm_bl [(.aload_n 1, 1, 1, 0, 0), (.getfield 37, 3, 4, 8, 0), (.aload_n 0, 1, 0, 0, 0), (.getfield 37, 3, 4, 8, 0)] (pc1 := 90) (lo1 := [some (.ref 394), some (.ref 26)]) (st1 := [.ref 401, .ref 33]) (μ1 := μ6) (vc := True) rfl (by decide +kernel) rfl trivial ?_
  refine pm_callSN2 mi_X9_copyRow (ix := 55) (host := RX9) (kc2 := 0) (ks2 := 0) (As := [.ref 33, .ref 401]) (rest := []) (c_X9_copyRow (a := 33) (b := 401) (n := 30) μ6 rfl rfl (by decide)) cal_X9_copyRow (by decide +kernel) (by decide +kernel) (by decide +kernel) rfl rfl (Nat.le_of_ble_eq_true rfl) (by decide) (by decide) ?_
  rintro _ μ7 ⟨rfl, e7⟩
  show pm_V _ _ _ _ 93 _ [] _
  refine pm_bl [(.aload_n 1, 1, 1, 0, 0), (.getfield 40, 3, 4, 9, 0), (.aload_n 0, 1, 0, 0, 0), (.getfield 40, 3, 4, 9, 0)] (pc1 := 101) (lo1 := [some (.ref 394), some (.ref 26)]) (st1 := [.ref 402, .ref 34]) (μ1 := μ7) (vc := True) rfl (by decide +kernel) rfl trivial ?_
  refine pm_callSN2 mi_X9_copyRow (ix := 55) (host := RX9) (kc2 := 0) (ks2 := 0) (As := [.ref 34, .ref 402]) (rest := []) (c_X9_copyRow (a := 34) (b := 402) (n := 30) μ7 rfl rfl (by decide)) cal_X9_copyRow (by decide +kernel) (by decide +kernel) (by decide +kernel) rfl rfl (Nat.le_of_ble_eq_true rfl) (by decide) (by decide) ?_
  rintro _ μ8 ⟨rfl, e8⟩
  show pm_V _ _ _ _ 104 _ [] _
  refine pm_bl [(.aload_n 1, 1, 1, 0, 0), (.getfield 43, 3, 4, 10, 0), (.aload_n 0, 1, 0, 0, 0), (.getfield 43, 3, 4, 10, 0)] (pc1 := 112) (lo1 := [some (.ref 394), some (.ref 26)]) (st1 := [.ref 403, .ref 35]) (μ1 := μ8) (vc := True) rfl (by decide +kernel) rfl trivial ?_
  refine pm_callSN2 mi_X9_copyRow (ix := 55) (host := RX9) (kc2 := 0) (ks2 := 0) (As := [.ref 35, .ref 403]) (rest := []) (c_X9_copyRow (a := 35) (b := 403) (n := 30) μ8 rfl rfl (by decide)) cal_X9_copyRow (by decide +kernel) (by decide +kernel) (by decide +kernel) rfl rfl (Nat.le_of_ble_eq_true rfl) (by decide) (by decide) ?_
  rintro _ μ9 ⟨rfl, e9⟩
  show pm_V _ _ _ _ 115 _ [] _
  refine pm_bl [(.aload_n 1, 1, 1, 0, 0), (.getfield 46, 3, 4, 11, 0), (.aload_n 0, 1, 0, 0, 0), (.getfield 46, 3, 4, 11, 0)] (pc1 := 123) (lo1 := [some (.ref 394), some (.ref 26)]) (st1 := [.ref 404, .ref 36]) (μ1 := μ9) (vc := True) rfl (by decide +kernel) rfl trivial ?_
  refine pm_callSN2 mi_X9_copyRow (ix := 55) (host := RX9) (kc2 := 0) (ks2 := 0) (As := [.ref 36, .ref 404]) (rest := []) (c_X9_copyRow (a := 36) (b := 404) (n := 30) μ9 rfl rfl (by decide)) cal_X9_copyRow (by decide +kernel) (by decide +kernel) (by decide +kernel) rfl rfl (Nat.le_of_ble_eq_true rfl) (by decide) (by decide) ?_
  rintro _ μ10 ⟨rfl, e10⟩
  show pm_V _ _ _ _ 126 _ [] _
  refine pm_bl [(.aload_n 1, 1, 1, 0, 0), (.getfield 49, 3, 4, 12, 0), (.aload_n 0, 1, 0, 0, 0), (.getfield 49, 3, 4, 12, 0)] (pc1 := 134) (lo1 := [some (.ref 394), some (.ref 26)]) (st1 := [.ref 405, .ref 37]) (μ1 := μ10) (vc := True) rfl (by decide +kernel) rfl trivial ?_
  refine pm_callSN2 mi_X9_copyRow (ix := 55) (host := RX9) (kc2 := 0) (ks2 := 0) (As := [.ref 37, .ref 405]) (rest := []) (c_X9_copyRow (a := 37) (b := 405) (n := 30) μ10 rfl rfl (by decide)) cal_X9_copyRow (by decide +kernel) (by decide +kernel) (by decide +kernel) rfl rfl (Nat.le_of_ble_eq_true rfl) (by decide) (by decide) ?_
  rintro _ μ11 ⟨rfl, e11⟩
  show pm_V _ _ _ _ 137 _ [] _
  refine pm_bl [(.aload_n 1, 1, 1, 0, 0), (.getfield 52, 3, 4, 13, 0), (.aload_n 0, 1, 0, 0, 0), (.getfield 52, 3, 4, 13, 0)] (pc1 := 145) (lo1 := [some (.ref 394), some (.ref 26)]) (st1 := [.ref 406, .ref 38]) (μ1 := μ11) (vc := True) rfl (by decide +kernel) rfl trivial ?_
  refine pm_callSN2 mi_X9_copyRow (ix := 55) (host := RX9) (kc2 := 0) (ks2 := 0) (As := [.ref 38, .ref 406]) (rest := []) (c_X9_copyRow (a := 38) (b := 406) (n := 30) μ11 rfl rfl (by decide)) cal_X9_copyRow (by decide +kernel) (by decide +kernel) (by decide +kernel) rfl rfl (Nat.le_of_ble_eq_true rfl) (by decide) (by decide) ?_
  rintro _ μ12 ⟨rfl, e12⟩
  show pm_V _ _ _ _ 148 _ [] _
  exact pm_vret rfl (by decide) (by decide) (by decide +kernel) (by
    subst e1; subst e2; subst e3; subst e4; subst e5; subst e6; subst e7; subst e8; subst e9; subst e10; subst e11; subst e12
    refine ⟨rfl, rfl, fun i hi => by rw [pm_row_off (by omega), pm_row_off (by omega), pm_row_off (by omega), pm_row_off (by omega), pm_row_off (by omega), pm_row_off (by omega), pm_row_off (by omega), pm_row_off (by omega), pm_row_off (by omega), pm_row_off (by omega), pm_row_off (by omega), pm_row_off (by omega), pm_set_off (by omega), pm_set_off (by omega)], lr_Rl.mv (b := 1) (b2 := 369) hX hn (by simp only [Nat.reduceAdd]; rw [pm_row_off (by decide), pm_row_off (by decide), pm_row_off (by decide), pm_row_off (by decide), pm_row_off (by decide), pm_row_off (by decide), pm_row_off (by decide), pm_row_off (by decide), pm_row_off (by decide), pm_row_off (by decide), pm_row_off (by decide), pm_row_off (by decide), pm_set_miss (Or.inr (by decide)), pm_set_hit]) (by simp only [Nat.reduceAdd]; rw [pm_row_off (by decide), pm_row_off (by decide), pm_row_off (by decide), pm_row_off (by decide), pm_row_off (by decide), pm_row_off (by decide), pm_row_off (by decide), pm_row_off (by decide), pm_row_off (by decide), pm_row_off (by decide), pm_row_off (by decide), pm_row_off (by decide), pm_set_hit]) (fun k i h1 h2 h3 => ?_) (fun _ _ _ => rfl) rfl⟩
    rcases (show k = 26 ∨ k = 27 ∨ k = 28 ∨ k = 29 ∨ k = 30 ∨ k = 31 ∨ k = 32 ∨ k = 33 ∨ k = 34 ∨ k = 35 ∨ k = 36 ∨ k = 37 by omega) with rfl | rfl | rfl | rfl | rfl | rfl | rfl | rfl | rfl | rfl | rfl | rfl
    · simp only [Nat.reduceAdd]; rw [pm_row_off (by decide), pm_row_off (by decide), pm_row_off (by decide), pm_row_off (by decide), pm_row_off (by decide), pm_row_off (by decide), pm_row_off (by decide), pm_row_off (by decide), pm_row_off (by decide), pm_row_off (by decide), pm_row_off (by decide), pm_row_at]; unfold va_cpy; rw [if_pos (by omega), pm_set_off (by decide), pm_set_off (by decide), show 0 + (i - 0) = i from by omega]
    · simp only [Nat.reduceAdd]; rw [pm_row_off (by decide), pm_row_off (by decide), pm_row_off (by decide), pm_row_off (by decide), pm_row_off (by decide), pm_row_off (by decide), pm_row_off (by decide), pm_row_off (by decide), pm_row_off (by decide), pm_row_off (by decide), pm_row_at]; unfold va_cpy; rw [if_pos (by omega), pm_row_off (by decide), pm_set_off (by decide), pm_set_off (by decide), show 0 + (i - 0) = i from by omega]
    · simp only [Nat.reduceAdd]; rw [pm_row_off (by decide), pm_row_off (by decide), pm_row_off (by decide), pm_row_off (by decide), pm_row_off (by decide), pm_row_off (by decide), pm_row_off (by decide), pm_row_off (by decide), pm_row_off (by decide), pm_row_at]; unfold va_cpy; rw [if_pos (by omega), pm_row_off (by decide), pm_row_off (by decide), pm_set_off (by decide), pm_set_off (by decide), show 0 + (i - 0) = i from by omega]
    · simp only [Nat.reduceAdd]; rw [pm_row_off (by decide), pm_row_off (by decide), pm_row_off (by decide), pm_row_off (by decide), pm_row_off (by decide), pm_row_off (by decide), pm_row_off (by decide), pm_row_off (by decide), pm_row_at]; unfold va_cpy; rw [if_pos (by omega), pm_row_off (by decide), pm_row_off (by decide), pm_row_off (by decide), pm_set_off (by decide), pm_set_off (by decide), show 0 + (i - 0) = i from by omega]
    · simp only [Nat.reduceAdd]; rw [pm_row_off (by decide), pm_row_off (by decide), pm_row_off (by decide), pm_row_off (by decide), pm_row_off (by decide), pm_row_off (by decide), pm_row_off (by decide), pm_row_at]; unfold va_cpy; rw [if_pos (by omega), pm_row_off (by decide), pm_row_off (by decide), pm_row_off (by decide), pm_row_off (by decide), pm_set_off (by decide), pm_set_off (by decide), show 0 + (i - 0) = i from by omega]
    · simp only [Nat.reduceAdd]; rw [pm_row_off (by decide), pm_row_off (by decide), pm_row_off (by decide), pm_row_off (by decide), pm_row_off (by decide), pm_row_off (by decide), pm_row_at]; unfold va_cpy; rw [if_pos (by omega), pm_row_off (by decide), pm_row_off (by decide), pm_row_off (by decide), pm_row_off (by decide), pm_row_off (by decide), pm_set_off (by decide), pm_set_off (by decide), show 0 + (i - 0) = i from by omega]
    · simp only [Nat.reduceAdd]; rw [pm_row_off (by decide), pm_row_off (by decide), pm_row_off (by decide), pm_row_off (by decide), pm_row_off (by decide), pm_row_at]; unfold va_cpy; rw [if_pos (by omega), pm_row_off (by decide), pm_row_off (by decide), pm_row_off (by decide), pm_row_off (by decide), pm_row_off (by decide), pm_row_off (by decide), pm_set_off (by decide), pm_set_off (by decide), show 0 + (i - 0) = i from by omega]
    · simp only [Nat.reduceAdd]; rw [pm_row_off (by decide), pm_row_off (by decide), pm_row_off (by decide), pm_row_off (by decide), pm_row_at]; unfold va_cpy; rw [if_pos (by omega), pm_row_off (by decide), pm_row_off (by decide), pm_row_off (by decide), pm_row_off (by decide), pm_row_off (by decide), pm_row_off (by decide), pm_row_off (by decide), pm_set_off (by decide), pm_set_off (by decide), show 0 + (i - 0) = i from by omega]
    · simp only [Nat.reduceAdd]; rw [pm_row_off (by decide), pm_row_off (by decide), pm_row_off (by decide), pm_row_at]; unfold va_cpy; rw [if_pos (by omega), pm_row_off (by decide), pm_row_off (by decide), pm_row_off (by decide), pm_row_off (by decide), pm_row_off (by decide), pm_row_off (by decide), pm_row_off (by decide), pm_row_off (by decide), pm_set_off (by decide), pm_set_off (by decide), show 0 + (i - 0) = i from by omega]
    · simp only [Nat.reduceAdd]; rw [pm_row_off (by decide), pm_row_off (by decide), pm_row_at]; unfold va_cpy; rw [if_pos (by omega), pm_row_off (by decide), pm_row_off (by decide), pm_row_off (by decide), pm_row_off (by decide), pm_row_off (by decide), pm_row_off (by decide), pm_row_off (by decide), pm_row_off (by decide), pm_row_off (by decide), pm_set_off (by decide), pm_set_off (by decide), show 0 + (i - 0) = i from by omega]
    · simp only [Nat.reduceAdd]; rw [pm_row_off (by decide), pm_row_at]; unfold va_cpy; rw [if_pos (by omega), pm_row_off (by decide), pm_row_off (by decide), pm_row_off (by decide), pm_row_off (by decide), pm_row_off (by decide), pm_row_off (by decide), pm_row_off (by decide), pm_row_off (by decide), pm_row_off (by decide), pm_row_off (by decide), pm_set_off (by decide), pm_set_off (by decide), show 0 + (i - 0) = i from by omega]
    · simp only [Nat.reduceAdd]; rw [pm_row_at]; unfold va_cpy; rw [if_pos (by omega), pm_row_off (by decide), pm_row_off (by decide), pm_row_off (by decide), pm_row_off (by decide), pm_row_off (by decide), pm_row_off (by decide), pm_row_off (by decide), pm_row_off (by decide), pm_row_off (by decide), pm_row_off (by decide), pm_row_off (by decide), pm_set_off (by decide), pm_set_off (by decide), show 0 + (i - 0) = i from by omega])
set_option maxHeartbeats 4000000 in
set_option maxRecDepth 100000 in
theorem c_X5_copyFrom_369_1 {g : Nat → Int32} (μ : pm_Mm) (hR : lr_Rel μ.1 1 g) (hB : lr_B g) : pm_CT mi_X5_copyFrom [.ref 369, .ref 1] μ (fun v μ2 => v = none ∧ μ2.2 = μ.2 ∧ (∀ i, (i < 369 ∨ 407 < i) → μ2.1 i = μ.1 i) ∧ lr_Rel μ2.1 369 g) pm_NX := by
  refine pm_CT_of (lo := [some (.ref 369), some (.ref 1)]) (by decide +kernel) rfl rfl (by intro v hv; simp at hv; rcases hv with rfl | rfl <;> rfl) (Nat.le_of_ble_eq_true rfl) rfl ?_
  obtain ⟨hm1, hm3, hm2, hm4, hm5, hm6⟩ := id hB
  refine pm_bl [(.aload_n 0, 1, 0, 0, 0), (.getfield 12, 3, 5, 0, 0), (.aload_n 1, 1, 1, 0, 0), (.getfield 12, 3, 5, 0, 0)] (pc1 := 8) (lo1 := [some (.ref 369), some (.ref 1)]) (st1 := [.ref 2, .ref 370]) (μ1 := μ) (vc := True) rfl (by decide +kernel) rfl trivial ?_
  refine pm_callV2 mi_X3_copyFrom (ix := 61) (b := 370) (ci := 3) (kc2 := 0) (ks2 := 0) (As := [.ref 2]) (rest := []) (c_X3_copyFrom_369_1 μ hR.2.1 hm1) cal_X3_copyFrom lk5_61 (by decide +kernel) rfl (by decide +kernel) rfl rfl rfl rfl (Nat.le_of_ble_eq_true rfl) (by decide) (by decide) (fun _ _ h9 => h9.elim) ?_
  rintro _ μ1 ⟨rfl, x1, f1, r1⟩
  show pm_V _ _ _ _ 11 _ [] _
  refine pm_bl [(.aload_n 0, 1, 0, 0, 0), (.getfield 21, 3, 5, 1, 0), (.aload_n 1, 1, 1, 0, 0), (.getfield 21, 3, 5, 1, 0)] (pc1 := 19) (lo1 := [some (.ref 369), some (.ref 1)]) (st1 := [.ref 5, .ref 373]) (μ1 := μ1) (vc := True) rfl (by decide +kernel) rfl trivial ?_
  refine pm_callV2 mi_X6_copyFrom (ix := 65) (b := 373) (ci := 6) (kc2 := 0) (ks2 := 0) (As := [.ref 5]) (rest := []) (c_X6_copyFrom_369_1 μ1 (lr_Rp.st (b := 1) hR.2.2.1 hm3 (fun k h1 h2 => by rw [f1 _ (by omega)]) (fun _ _ _ => rfl)) hm3) cal_X6_copyFrom lk5_65 (by decide +kernel) rfl (by decide +kernel) rfl rfl rfl rfl (Nat.le_of_ble_eq_true rfl) (by decide) (by decide) (fun _ _ h9 => h9.elim) ?_
  rintro _ μ2 ⟨rfl, x2, f2, r2⟩
  show pm_V _ _ _ _ 22 _ [] _
  refine pm_bl [(.aload_n 0, 1, 0, 0, 0), (.getfield 28, 3, 5, 2, 0), (.aload_n 1, 1, 1, 0, 0), (.getfield 28, 3, 5, 2, 0)] (pc1 := 30) (lo1 := [some (.ref 369), some (.ref 1)]) (st1 := [.ref 10, .ref 378]) (μ1 := μ2) (vc := True) rfl (by decide +kernel) rfl trivial ?_
  refine pm_callV2 mi_X8_copyFrom (ix := 68) (b := 378) (ci := 8) (kc2 := 0) (ks2 := 0) (As := [.ref 10]) (rest := []) (c_X8_copyFrom_369_1 μ2 (lr_Rw.st (b := 1) hR.2.2.2.1 hm2 (fun k h1 h2 => by rw [f2 _ (by omega), f1 _ (by omega)]) (fun _ _ _ => rfl)) hm2) cal_X8_copyFrom lk5_68 (by decide +kernel) rfl (by decide +kernel) rfl rfl rfl rfl (Nat.le_of_ble_eq_true rfl) (by decide) (by decide) (fun _ _ h9 => h9.elim) ?_
  rintro _ μ3 ⟨rfl, x3, f3, r3⟩
  show pm_V _ _ _ _ 33 _ [] _
  refine pm_bl [(.aload_n 0, 1, 0, 0, 0), (.getfield 35, 3, 5, 3, 0), (.aload_n 1, 1, 1, 0, 0), (.getfield 35, 3, 5, 3, 0)] (pc1 := 41) (lo1 := [some (.ref 369), some (.ref 1)]) (st1 := [.ref 16, .ref 384]) (μ1 := μ3) (vc := True) rfl (by decide +kernel) rfl trivial ?_
  refine pm_callV2 mi_X7_copyFrom (ix := 71) (b := 384) (ci := 7) (kc2 := 0) (ks2 := 0) (As := [.ref 16]) (rest := []) (c_X7_copyFrom_369_1 μ3 (lr_Rr.st (b := 1) hR.2.2.2.2.1 hm4 (fun k h1 h2 => by rw [f3 _ (by omega), f2 _ (by omega), f1 _ (by omega)]) (fun _ _ _ => rfl)) hm4) cal_X7_copyFrom lk5_71 (by decide +kernel) rfl (by decide +kernel) rfl rfl rfl rfl (Nat.le_of_ble_eq_true rfl) (by decide) (by decide) (fun _ _ h9 => h9.elim) ?_
  rintro _ μ4 ⟨rfl, x4, f4, r4⟩
  show pm_V _ _ _ _ 44 _ [] _
  refine pm_bl [(.aload_n 0, 1, 0, 0, 0), (.getfield 42, 3, 5, 4, 0), (.aload_n 1, 1, 1, 0, 0), (.getfield 42, 3, 5, 4, 0)] (pc1 := 52) (lo1 := [some (.ref 369), some (.ref 1)]) (st1 := [.ref 22, .ref 390]) (μ1 := μ4) (vc := True) rfl (by decide +kernel) rfl trivial ?_
  refine pm_callV2 mi_X0_copyFrom (ix := 74) (b := 390) (ci := 0) (kc2 := 0) (ks2 := 0) (As := [.ref 22]) (rest := []) (c_X0_copyFrom_369_1 μ4 (lr_Ra.st (b := 1) hR.2.2.2.2.2.1 hm5 (fun k h1 h2 => by rw [f4 _ (by omega), f3 _ (by omega), f2 _ (by omega), f1 _ (by omega)]) (fun _ _ _ => rfl)) hm5) cal_X0_copyFrom lk5_74 (by decide +kernel) rfl (by decide +kernel) rfl rfl rfl rfl (Nat.le_of_ble_eq_true rfl) (by decide) (by decide) (fun _ _ h9 => h9.elim) ?_
  rintro _ μ5 ⟨rfl, x5, f5, r5⟩
  show pm_V _ _ _ _ 55 _ [] _
  refine pm_bl [(.aload_n 0, 1, 0, 0, 0), (.getfield 49, 3, 5, 5, 0), (.aload_n 1, 1, 1, 0, 0), (.getfield 49, 3, 5, 5, 0)] (pc1 := 63) (lo1 := [some (.ref 369), some (.ref 1)]) (st1 := [.ref 26, .ref 394]) (μ1 := μ5) (vc := True) rfl (by decide +kernel) rfl trivial ?_
  refine pm_callV2 mi_X4_copyFrom (ix := 77) (b := 394) (ci := 4) (kc2 := 0) (ks2 := 0) (As := [.ref 26]) (rest := []) (c_X4_copyFrom_369_1 μ5 (lr_Rl.st (b := 1) hR.2.2.2.2.2.2 hm6 (fun k h1 h2 => by rw [f5 _ (by omega), f4 _ (by omega), f3 _ (by omega), f2 _ (by omega), f1 _ (by omega)]) rfl (fun _ _ _ => rfl)) hm6) cal_X4_copyFrom lk5_77 (by decide +kernel) rfl (by decide +kernel) rfl rfl rfl rfl (Nat.le_of_ble_eq_true rfl) (by decide) (by decide) (fun _ _ h9 => h9.elim) ?_
  rintro _ μ6 ⟨rfl, x6, f6, r6⟩
  show pm_V _ _ _ _ 66 _ [] _
  refine pm_bl [(.aload_n 0, 1, 0, 0, 0), (.aload_n 1, 1, 1, 0, 0), (.getfield 53, 3, 5, 6, 0), (.putfield 53, 3, 5, 6, 0)] (pc1 := 74) (lo1 := [some (.ref 369), some (.ref 1)]) (st1 := []) (μ1 := pm_set μ6 369 6 (μ6.1 1 6)) (vc := True) rfl (by decide +kernel) rfl trivial ?_
  exact pm_vret rfl (by decide) (by decide) (by decide +kernel) (⟨rfl, (x6.trans (x5.trans (x4.trans (x3.trans (x2.trans x1))))), fun i hi => by rw [pm_set_off (by omega), f6 _ (by omega), f5 _ (by omega), f4 _ (by omega), f3 _ (by omega), f2 _ (by omega), f1 _ (by omega)], by rw [pm_set_hit, f6 _ (by omega), f5 _ (by omega), f4 _ (by omega), f3 _ (by omega), f2 _ (by omega), f1 _ (by omega)]; exact hR.1, lr_Rh.st (b := 369) r1 hm1 (fun k h1 h2 => by rw [pm_set_off (by omega), f6 _ (by omega), f5 _ (by omega), f4 _ (by omega), f3 _ (by omega), f2 _ (by omega)]) (fun _ _ _ => rfl), lr_Rp.st (b := 369) r2 hm3 (fun k h1 h2 => by rw [pm_set_off (by omega), f6 _ (by omega), f5 _ (by omega), f4 _ (by omega), f3 _ (by omega)]) (fun _ _ _ => rfl), lr_Rw.st (b := 369) r3 hm2 (fun k h1 h2 => by rw [pm_set_off (by omega), f6 _ (by omega), f5 _ (by omega), f4 _ (by omega)]) (fun _ _ _ => rfl), lr_Rr.st (b := 369) r4 hm4 (fun k h1 h2 => by rw [pm_set_off (by omega), f6 _ (by omega), f5 _ (by omega)]) (fun _ _ _ => rfl), lr_Ra.st (b := 369) r5 hm5 (fun k h1 h2 => by rw [pm_set_off (by omega), f6 _ (by omega)]) (fun _ _ _ => rfl), lr_Rl.st (b := 369) r6 hm6 (fun k h1 h2 => by rw [pm_set_off (by omega)]) rfl (fun _ _ _ => rfl)⟩)
set_option maxHeartbeats 4000000 in
set_option maxRecDepth 100000 in
theorem c_X3_copyFrom_1_96 {g : Nat → Int32} (μ : pm_Mm) (hX : lr_Rh μ.1 96 g) (hn : lr_n g 2 ≤ 16) : pm_CT mi_X3_copyFrom [.ref 2, .ref 97] μ (fun v μ2 => v = none ∧ μ2.2 = μ.2 ∧ (∀ i, (i < 2 ∨ 4 < i) → μ2.1 i = μ.1 i) ∧ lr_Rh μ2.1 1 g) pm_NX := by
  refine pm_CT_of (lo := [some (.ref 2), some (.ref 97)]) (by decide +kernel) rfl rfl (by intro v hv; simp at hv; rcases hv with rfl | rfl <;> rfl) (Nat.le_of_ble_eq_true rfl) rfl ?_
  refine pm_bl [(.aload_n 0, 1, 0, 0, 0), (.aload_n 1, 1, 1, 0, 0), (.getfield 9, 3, 3, 0, 0), (.putfield 9, 3, 3, 0, 0), (.aload_n 1, 1, 1, 0, 0), (.getfield 15, 3, 3, 1, 0), (.aload_n 0, 1, 0, 0, 0), (.getfield 15, 3, 3, 1, 0)] (pc1 := 16) (lo1 := [some (.ref 2), some (.ref 97)]) (st1 := [.ref 3, .ref 98]) (μ1 := pm_set μ 2 0 (μ.1 97 0)) (vc := True) rfl (by decide +kernel) rfl trivial ?_
  refine pm_callSN2 mi_X9_copyRow (ix := 22) (host := RX9) (kc2 := 0) (ks2 := 0) (As := [.ref 98, .ref 3]) (rest := []) (c_X9_copyRow (a := 98) (b := 3) (n := 16) (pm_set μ 2 0 (μ.1 97 0)) rfl rfl (by decide)) cal_X9_copyRow (by decide +kernel) (by decide +kernel) (by decide +kernel) rfl rfl (Nat.le_of_ble_eq_true rfl) (by decide) (by decide) ?_
  rintro _ μ1 ⟨rfl, e1⟩
  show pm_V _ _ _ _ 19 _ [] _
  refine pm_bl [(.aload_n 1, 1, 1, 0, 0), (.getfield 19, 3, 3, 2, 0), (.aload_n 0, 1, 0, 0, 0), (.getfield 19, 3, 3, 2, 0)] (pc1 := 27) (lo1 := [some (.ref 2), some (.ref 97)]) (st1 := [.ref 4, .ref 99]) (μ1 := μ1) (vc := True) rfl (by decide +kernel) rfl trivial ?_
  refine pm_callSN2 mi_X9_copyRow (ix := 22) (host := RX9) (kc2 := 0) (ks2 := 0) (As := [.ref 99, .ref 4]) (rest := []) (c_X9_copyRow (a := 99) (b := 4) (n := 16) μ1 rfl rfl (by decide)) cal_X9_copyRow (by decide +kernel) (by decide +kernel) (by decide +kernel) rfl rfl (Nat.le_of_ble_eq_true rfl) (by decide) (by decide) ?_
  rintro _ μ2 ⟨rfl, e2⟩
  show pm_V _ _ _ _ 30 _ [] _
  exact pm_vret rfl (by decide) (by decide) (by decide +kernel) (by
    subst e1; subst e2
    refine ⟨rfl, rfl, fun i hi => by rw [pm_row_off (by omega), pm_row_off (by omega), pm_set_off (by omega)], lr_Rh.mv (b := 96) (b2 := 1) hX hn (by simp only [Nat.reduceAdd]; rw [pm_row_off (by decide), pm_row_off (by decide), pm_set_hit]) (fun k i h1 h2 h3 => ?_) (fun _ _ _ => rfl)⟩
    rcases (show k = 2 ∨ k = 3 by omega) with rfl | rfl
    · simp only [Nat.reduceAdd]; rw [pm_row_off (by decide), pm_row_at]; unfold va_cpy; rw [if_pos (by omega), pm_set_off (by decide), show 0 + (i - 0) = i from by omega]
    · simp only [Nat.reduceAdd]; rw [pm_row_at]; unfold va_cpy; rw [if_pos (by omega), pm_row_off (by decide), pm_set_off (by decide), show 0 + (i - 0) = i from by omega])
set_option maxHeartbeats 4000000 in
set_option maxRecDepth 100000 in
theorem c_X6_copyFrom_1_96 {g : Nat → Int32} (μ : pm_Mm) (hX : lr_Rp μ.1 96 g) (hn : lr_n g 35 ≤ 20) : pm_CT mi_X6_copyFrom [.ref 5, .ref 100] μ (fun v μ2 => v = none ∧ μ2.2 = μ.2 ∧ (∀ i, (i < 5 ∨ 9 < i) → μ2.1 i = μ.1 i) ∧ lr_Rp μ2.1 1 g) pm_NX := by
  refine pm_CT_of (lo := [some (.ref 5), some (.ref 100)]) (by decide +kernel) rfl rfl (by intro v hv; simp at hv; rcases hv with rfl | rfl <;> rfl) (Nat.le_of_ble_eq_true rfl) rfl ?_
  refine pm_bl [(.aload_n 0, 1, 0, 0, 0), (.aload_n 1, 1, 1, 0, 0), (.getfield 9, 3, 6, 0, 0), (.putfield 9, 3, 6, 0, 0), (.aload_n 1, 1, 1, 0, 0), (.getfield 15, 3, 6, 1, 0), (.aload_n 0, 1, 0, 0, 0), (.getfield 15, 3, 6, 1, 0)] (pc1 := 16) (lo1 := [some (.ref 5), some (.ref 100)]) (st1 := [.ref 6, .ref 101]) (μ1 := pm_set μ 5 0 (μ.1 100 0)) (vc := True) rfl (by decide +kernel) rfl trivial ?_
  refine pm_callSN2 mi_X9_copyRow (ix := 28) (host := RX9) (kc2 := 0) (ks2 := 0) (As := [.ref 101, .ref 6]) (rest := []) (c_X9_copyRow (a := 101) (b := 6) (n := 20) (pm_set μ 5 0 (μ.1 100 0)) rfl rfl (by decide)) cal_X9_copyRow (by decide +kernel) (by decide +kernel) (by decide +kernel) rfl rfl (Nat.le_of_ble_eq_true rfl) (by decide) (by decide) ?_
  rintro _ μ1 ⟨rfl, e1⟩
  show pm_V _ _ _ _ 19 _ [] _
  refine pm_bl [(.aload_n 1, 1, 1, 0, 0), (.getfield 19, 3, 6, 2, 0), (.aload_n 0, 1, 0, 0, 0), (.getfield 19, 3, 6, 2, 0)] (pc1 := 27) (lo1 := [some (.ref 5), some (.ref 100)]) (st1 := [.ref 7, .ref 102]) (μ1 := μ1) (vc := True) rfl (by decide +kernel) rfl trivial ?_
  refine pm_callSN2 mi_X9_copyRow (ix := 28) (host := RX9) (kc2 := 0) (ks2 := 0) (As := [.ref 102, .ref 7]) (rest := []) (c_X9_copyRow (a := 102) (b := 7) (n := 20) μ1 rfl rfl (by decide)) cal_X9_copyRow (by decide +kernel) (by decide +kernel) (by decide +kernel) rfl rfl (Nat.le_of_ble_eq_true rfl) (by decide) (by decide) ?_
  rintro _ μ2 ⟨rfl, e2⟩
  show pm_V _ _ _ _ 30 _ [] _
  refine pm_bl [(.aload_n 1, 1, 1, 0, 0), (.getfield 22, 3, 6, 3, 0), (.aload_n 0, 1, 0, 0, 0), (.getfield 22, 3, 6, 3, 0)] (pc1 := 38) (lo1 := [some (.ref 5), some (.ref 100)]) (st1 := [.ref 8, .ref 103]) (μ1 := μ2) (vc := True) rfl (by decide +kernel) rfl trivial ?_
  refine pm_callSN2 mi_X9_copyRow (ix := 28) (host := RX9) (kc2 := 0) (ks2 := 0) (As := [.ref 103, .ref 8]) (rest := []) (c_X9_copyRow (a := 103) (b := 8) (n := 20) μ2 rfl rfl (by decide)) cal_X9_copyRow (by decide +kernel) (by decide +kernel) (by decide +kernel) rfl rfl (Nat.le_of_ble_eq_true rfl) (by decide) (by decide) ?_
  rintro _ μ3 ⟨rfl, e3⟩
  show pm_V _ _ _ _ 41 _ [] _
  refine pm_bl [(.aload_n 1, 1, 1, 0, 0), (.getfield 25, 3, 6, 4, 0), (.aload_n 0, 1, 0, 0, 0), (.getfield 25, 3, 6, 4, 0)] (pc1 := 49) (lo1 := [some (.ref 5), some (.ref 100)]) (st1 := [.ref 9, .ref 104]) (μ1 := μ3) (vc := True) rfl (by decide +kernel) rfl trivial ?_
  refine pm_callSN2 mi_X9_copyRow (ix := 28) (host := RX9) (kc2 := 0) (ks2 := 0) (As := [.ref 104, .ref 9]) (rest := []) (c_X9_copyRow (a := 104) (b := 9) (n := 20) μ3 rfl rfl (by decide)) cal_X9_copyRow (by decide +kernel) (by decide +kernel) (by decide +kernel) rfl rfl (Nat.le_of_ble_eq_true rfl) (by decide) (by decide) ?_
  rintro _ μ4 ⟨rfl, e4⟩
  show pm_V _ _ _ _ 52 _ [] _
  exact pm_vret rfl (by decide) (by decide) (by decide +kernel) (by
    subst e1; subst e2; subst e3; subst e4
    refine ⟨rfl, rfl, fun i hi => by rw [pm_row_off (by omega), pm_row_off (by omega), pm_row_off (by omega), pm_row_off (by omega), pm_set_off (by omega)], lr_Rp.mv (b := 96) (b2 := 1) hX hn (by simp only [Nat.reduceAdd]; rw [pm_row_off (by decide), pm_row_off (by decide), pm_row_off (by decide), pm_row_off (by decide), pm_set_hit]) (fun k i h1 h2 h3 => ?_) (fun _ _ _ => rfl)⟩
    rcases (show k = 5 ∨ k = 6 ∨ k = 7 ∨ k = 8 by omega) with rfl | rfl | rfl | rfl
    · simp only [Nat.reduceAdd]; rw [pm_row_off (by decide), pm_row_off (by decide), pm_row_off (by decide), pm_row_at]; unfold va_cpy; rw [if_pos (by omega), pm_set_off (by decide), show 0 + (i - 0) = i from by omega]
    · simp only [Nat.reduceAdd]; rw [pm_row_off (by decide), pm_row_off (by decide), pm_row_at]; unfold va_cpy; rw [if_pos (by omega), pm_row_off (by decide), pm_set_off (by decide), show 0 + (i - 0) = i from by omega]
    · simp only [Nat.reduceAdd]; rw [pm_row_off (by decide), pm_row_at]; unfold va_cpy; rw [if_pos (by omega), pm_row_off (by decide), pm_row_off (by decide), pm_set_off (by decide), show 0 + (i - 0) = i from by omega]
    · simp only [Nat.reduceAdd]; rw [pm_row_at]; unfold va_cpy; rw [if_pos (by omega), pm_row_off (by decide), pm_row_off (by decide), pm_row_off (by decide), pm_set_off (by decide), show 0 + (i - 0) = i from by omega])
set_option maxHeartbeats 4000000 in
set_option maxRecDepth 100000 in
theorem c_X8_copyFrom_1_96 {g : Nat → Int32} (μ : pm_Mm) (hX : lr_Rw μ.1 96 g) (hn : lr_n g 116 ≤ 10) : pm_CT mi_X8_copyFrom [.ref 10, .ref 105] μ (fun v μ2 => v = none ∧ μ2.2 = μ.2 ∧ (∀ i, (i < 10 ∨ 15 < i) → μ2.1 i = μ.1 i) ∧ lr_Rw μ2.1 1 g) pm_NX := by
  refine pm_CT_of (lo := [some (.ref 10), some (.ref 105)]) (by decide +kernel) rfl rfl (by intro v hv; simp at hv; rcases hv with rfl | rfl <;> rfl) (Nat.le_of_ble_eq_true rfl) rfl ?_
  refine pm_bl [(.aload_n 0, 1, 0, 0, 0), (.aload_n 1, 1, 1, 0, 0), (.getfield 9, 3, 8, 0, 0), (.putfield 9, 3, 8, 0, 0), (.aload_n 1, 1, 1, 0, 0), (.getfield 15, 3, 8, 1, 0), (.aload_n 0, 1, 0, 0, 0), (.getfield 15, 3, 8, 1, 0)] (pc1 := 16) (lo1 := [some (.ref 10), some (.ref 105)]) (st1 := [.ref 11, .ref 106]) (μ1 := pm_set μ 10 0 (μ.1 105 0)) (vc := True) rfl (by decide +kernel) rfl trivial ?_
  refine pm_callSN2 mi_X9_copyRow (ix := 31) (host := RX9) (kc2 := 0) (ks2 := 0) (As := [.ref 106, .ref 11]) (rest := []) (c_X9_copyRow (a := 106) (b := 11) (n := 10) (pm_set μ 10 0 (μ.1 105 0)) rfl rfl (by decide)) cal_X9_copyRow (by decide +kernel) (by decide +kernel) (by decide +kernel) rfl rfl (Nat.le_of_ble_eq_true rfl) (by decide) (by decide) ?_
  rintro _ μ1 ⟨rfl, e1⟩
  show pm_V _ _ _ _ 19 _ [] _
  refine pm_bl [(.aload_n 1, 1, 1, 0, 0), (.getfield 19, 3, 8, 2, 0), (.aload_n 0, 1, 0, 0, 0), (.getfield 19, 3, 8, 2, 0)] (pc1 := 27) (lo1 := [some (.ref 10), some (.ref 105)]) (st1 := [.ref 12, .ref 107]) (μ1 := μ1) (vc := True) rfl (by decide +kernel) rfl trivial ?_
  refine pm_callSN2 mi_X9_copyRow (ix := 31) (host := RX9) (kc2 := 0) (ks2 := 0) (As := [.ref 107, .ref 12]) (rest := []) (c_X9_copyRow (a := 107) (b := 12) (n := 10) μ1 rfl rfl (by decide)) cal_X9_copyRow (by decide +kernel) (by decide +kernel) (by decide +kernel) rfl rfl (Nat.le_of_ble_eq_true rfl) (by decide) (by decide) ?_
  rintro _ μ2 ⟨rfl, e2⟩
  show pm_V _ _ _ _ 30 _ [] _
  refine pm_bl [(.aload_n 1, 1, 1, 0, 0), (.getfield 22, 3, 8, 3, 0), (.aload_n 0, 1, 0, 0, 0), (.getfield 22, 3, 8, 3, 0)] (pc1 := 38) (lo1 := [some (.ref 10), some (.ref 105)]) (st1 := [.ref 13, .ref 108]) (μ1 := μ2) (vc := True) rfl (by decide +kernel) rfl trivial ?_
  refine pm_callSN2 mi_X9_copyRow (ix := 31) (host := RX9) (kc2 := 0) (ks2 := 0) (As := [.ref 108, .ref 13]) (rest := []) (c_X9_copyRow (a := 108) (b := 13) (n := 10) μ2 rfl rfl (by decide)) cal_X9_copyRow (by decide +kernel) (by decide +kernel) (by decide +kernel) rfl rfl (Nat.le_of_ble_eq_true rfl) (by decide) (by decide) ?_
  rintro _ μ3 ⟨rfl, e3⟩
  show pm_V _ _ _ _ 41 _ [] _
  refine pm_bl [(.aload_n 1, 1, 1, 0, 0), (.getfield 25, 3, 8, 4, 0), (.aload_n 0, 1, 0, 0, 0), (.getfield 25, 3, 8, 4, 0)] (pc1 := 49) (lo1 := [some (.ref 10), some (.ref 105)]) (st1 := [.ref 14, .ref 109]) (μ1 := μ3) (vc := True) rfl (by decide +kernel) rfl trivial ?_
  refine pm_callSN2 mi_X9_copyRow (ix := 31) (host := RX9) (kc2 := 0) (ks2 := 0) (As := [.ref 109, .ref 14]) (rest := []) (c_X9_copyRow (a := 109) (b := 14) (n := 10) μ3 rfl rfl (by decide)) cal_X9_copyRow (by decide +kernel) (by decide +kernel) (by decide +kernel) rfl rfl (Nat.le_of_ble_eq_true rfl) (by decide) (by decide) ?_
  rintro _ μ4 ⟨rfl, e4⟩
  show pm_V _ _ _ _ 52 _ [] _
  refine pm_bl [(.aload_n 1, 1, 1, 0, 0), (.getfield 28, 3, 8, 5, 0), (.aload_n 0, 1, 0, 0, 0), (.getfield 28, 3, 8, 5, 0)] (pc1 := 60) (lo1 := [some (.ref 10), some (.ref 105)]) (st1 := [.ref 15, .ref 110]) (μ1 := μ4) (vc := True) rfl (by decide +kernel) rfl trivial ?_
  refine pm_callSN2 mi_X9_copyRow (ix := 31) (host := RX9) (kc2 := 0) (ks2 := 0) (As := [.ref 110, .ref 15]) (rest := []) (c_X9_copyRow (a := 110) (b := 15) (n := 10) μ4 rfl rfl (by decide)) cal_X9_copyRow (by decide +kernel) (by decide +kernel) (by decide +kernel) rfl rfl (Nat.le_of_ble_eq_true rfl) (by decide) (by decide) ?_
  rintro _ μ5 ⟨rfl, e5⟩
  show pm_V _ _ _ _ 63 _ [] _
  exact pm_vret rfl (by decide) (by decide) (by decide +kernel) (by
    subst e1; subst e2; subst e3; subst e4; subst e5
    refine ⟨rfl, rfl, fun i hi => by rw [pm_row_off (by omega), pm_row_off (by omega), pm_row_off (by omega), pm_row_off (by omega), pm_row_off (by omega), pm_set_off (by omega)], lr_Rw.mv (b := 96) (b2 := 1) hX hn (by simp only [Nat.reduceAdd]; rw [pm_row_off (by decide), pm_row_off (by decide), pm_row_off (by decide), pm_row_off (by decide), pm_row_off (by decide), pm_set_hit]) (fun k i h1 h2 h3 => ?_) (fun _ _ _ => rfl)⟩
    rcases (show k = 10 ∨ k = 11 ∨ k = 12 ∨ k = 13 ∨ k = 14 by omega) with rfl | rfl | rfl | rfl | rfl
    · simp only [Nat.reduceAdd]; rw [pm_row_off (by decide), pm_row_off (by decide), pm_row_off (by decide), pm_row_off (by decide), pm_row_at]; unfold va_cpy; rw [if_pos (by omega), pm_set_off (by decide), show 0 + (i - 0) = i from by omega]
    · simp only [Nat.reduceAdd]; rw [pm_row_off (by decide), pm_row_off (by decide), pm_row_off (by decide), pm_row_at]; unfold va_cpy; rw [if_pos (by omega), pm_row_off (by decide), pm_set_off (by decide), show 0 + (i - 0) = i from by omega]
    · simp only [Nat.reduceAdd]; rw [pm_row_off (by decide), pm_row_off (by decide), pm_row_at]; unfold va_cpy; rw [if_pos (by omega), pm_row_off (by decide), pm_row_off (by decide), pm_set_off (by decide), show 0 + (i - 0) = i from by omega]
    · simp only [Nat.reduceAdd]; rw [pm_row_off (by decide), pm_row_at]; unfold va_cpy; rw [if_pos (by omega), pm_row_off (by decide), pm_row_off (by decide), pm_row_off (by decide), pm_set_off (by decide), show 0 + (i - 0) = i from by omega]
    · simp only [Nat.reduceAdd]; rw [pm_row_at]; unfold va_cpy; rw [if_pos (by omega), pm_row_off (by decide), pm_row_off (by decide), pm_row_off (by decide), pm_row_off (by decide), pm_set_off (by decide), show 0 + (i - 0) = i from by omega])
set_option maxHeartbeats 4000000 in
set_option maxRecDepth 100000 in
theorem c_X7_copyFrom_1_96 {g : Nat → Int32} (μ : pm_Mm) (hX : lr_Rr μ.1 96 g) (hn : lr_n g 167 ≤ 12) : pm_CT mi_X7_copyFrom [.ref 16, .ref 111] μ (fun v μ2 => v = none ∧ μ2.2 = μ.2 ∧ (∀ i, (i < 16 ∨ 21 < i) → μ2.1 i = μ.1 i) ∧ lr_Rr μ2.1 1 g) pm_NX := by
  refine pm_CT_of (lo := [some (.ref 16), some (.ref 111)]) (by decide +kernel) rfl rfl (by intro v hv; simp at hv; rcases hv with rfl | rfl <;> rfl) (Nat.le_of_ble_eq_true rfl) rfl ?_
  refine pm_bl [(.aload_n 0, 1, 0, 0, 0), (.aload_n 1, 1, 1, 0, 0), (.getfield 9, 3, 7, 0, 0), (.putfield 9, 3, 7, 0, 0), (.aload_n 1, 1, 1, 0, 0), (.getfield 15, 3, 7, 1, 0), (.aload_n 0, 1, 0, 0, 0), (.getfield 15, 3, 7, 1, 0)] (pc1 := 16) (lo1 := [some (.ref 16), some (.ref 111)]) (st1 := [.ref 17, .ref 112]) (μ1 := pm_set μ 16 0 (μ.1 111 0)) (vc := True) rfl (by decide +kernel) rfl trivial ?_
  refine pm_callSN2 mi_X9_copyRow (ix := 31) (host := RX9) (kc2 := 0) (ks2 := 0) (As := [.ref 112, .ref 17]) (rest := []) (c_X9_copyRow (a := 112) (b := 17) (n := 12) (pm_set μ 16 0 (μ.1 111 0)) rfl rfl (by decide)) cal_X9_copyRow (by decide +kernel) (by decide +kernel) (by decide +kernel) rfl rfl (Nat.le_of_ble_eq_true rfl) (by decide) (by decide) ?_
  rintro _ μ1 ⟨rfl, e1⟩
  show pm_V _ _ _ _ 19 _ [] _
  refine pm_bl [(.aload_n 1, 1, 1, 0, 0), (.getfield 19, 3, 7, 2, 0), (.aload_n 0, 1, 0, 0, 0), (.getfield 19, 3, 7, 2, 0)] (pc1 := 27) (lo1 := [some (.ref 16), some (.ref 111)]) (st1 := [.ref 18, .ref 113]) (μ1 := μ1) (vc := True) rfl (by decide +kernel) rfl trivial ?_
  refine pm_callSN2 mi_X9_copyRow (ix := 31) (host := RX9) (kc2 := 0) (ks2 := 0) (As := [.ref 113, .ref 18]) (rest := []) (c_X9_copyRow (a := 113) (b := 18) (n := 12) μ1 rfl rfl (by decide)) cal_X9_copyRow (by decide +kernel) (by decide +kernel) (by decide +kernel) rfl rfl (Nat.le_of_ble_eq_true rfl) (by decide) (by decide) ?_
  rintro _ μ2 ⟨rfl, e2⟩
  show pm_V _ _ _ _ 30 _ [] _
  refine pm_bl [(.aload_n 1, 1, 1, 0, 0), (.getfield 22, 3, 7, 3, 0), (.aload_n 0, 1, 0, 0, 0), (.getfield 22, 3, 7, 3, 0)] (pc1 := 38) (lo1 := [some (.ref 16), some (.ref 111)]) (st1 := [.ref 19, .ref 114]) (μ1 := μ2) (vc := True) rfl (by decide +kernel) rfl trivial ?_
  refine pm_callSN2 mi_X9_copyRow (ix := 31) (host := RX9) (kc2 := 0) (ks2 := 0) (As := [.ref 114, .ref 19]) (rest := []) (c_X9_copyRow (a := 114) (b := 19) (n := 12) μ2 rfl rfl (by decide)) cal_X9_copyRow (by decide +kernel) (by decide +kernel) (by decide +kernel) rfl rfl (Nat.le_of_ble_eq_true rfl) (by decide) (by decide) ?_
  rintro _ μ3 ⟨rfl, e3⟩
  show pm_V _ _ _ _ 41 _ [] _
  refine pm_bl [(.aload_n 1, 1, 1, 0, 0), (.getfield 25, 3, 7, 4, 0), (.aload_n 0, 1, 0, 0, 0), (.getfield 25, 3, 7, 4, 0)] (pc1 := 49) (lo1 := [some (.ref 16), some (.ref 111)]) (st1 := [.ref 20, .ref 115]) (μ1 := μ3) (vc := True) rfl (by decide +kernel) rfl trivial ?_
  refine pm_callSN2 mi_X9_copyRow (ix := 31) (host := RX9) (kc2 := 0) (ks2 := 0) (As := [.ref 115, .ref 20]) (rest := []) (c_X9_copyRow (a := 115) (b := 20) (n := 12) μ3 rfl rfl (by decide)) cal_X9_copyRow (by decide +kernel) (by decide +kernel) (by decide +kernel) rfl rfl (Nat.le_of_ble_eq_true rfl) (by decide) (by decide) ?_
  rintro _ μ4 ⟨rfl, e4⟩
  show pm_V _ _ _ _ 52 _ [] _
  refine pm_bl [(.aload_n 1, 1, 1, 0, 0), (.getfield 28, 3, 7, 5, 0), (.aload_n 0, 1, 0, 0, 0), (.getfield 28, 3, 7, 5, 0)] (pc1 := 60) (lo1 := [some (.ref 16), some (.ref 111)]) (st1 := [.ref 21, .ref 116]) (μ1 := μ4) (vc := True) rfl (by decide +kernel) rfl trivial ?_
  refine pm_callSN2 mi_X9_copyRow (ix := 31) (host := RX9) (kc2 := 0) (ks2 := 0) (As := [.ref 116, .ref 21]) (rest := []) (c_X9_copyRow (a := 116) (b := 21) (n := 12) μ4 rfl rfl (by decide)) cal_X9_copyRow (by decide +kernel) (by decide +kernel) (by decide +kernel) rfl rfl (Nat.le_of_ble_eq_true rfl) (by decide) (by decide) ?_
  rintro _ μ5 ⟨rfl, e5⟩
  show pm_V _ _ _ _ 63 _ [] _
  exact pm_vret rfl (by decide) (by decide) (by decide +kernel) (by
    subst e1; subst e2; subst e3; subst e4; subst e5
    refine ⟨rfl, rfl, fun i hi => by rw [pm_row_off (by omega), pm_row_off (by omega), pm_row_off (by omega), pm_row_off (by omega), pm_row_off (by omega), pm_set_off (by omega)], lr_Rr.mv (b := 96) (b2 := 1) hX hn (by simp only [Nat.reduceAdd]; rw [pm_row_off (by decide), pm_row_off (by decide), pm_row_off (by decide), pm_row_off (by decide), pm_row_off (by decide), pm_set_hit]) (fun k i h1 h2 h3 => ?_) (fun _ _ _ => rfl)⟩
    rcases (show k = 16 ∨ k = 17 ∨ k = 18 ∨ k = 19 ∨ k = 20 by omega) with rfl | rfl | rfl | rfl | rfl
    · simp only [Nat.reduceAdd]; rw [pm_row_off (by decide), pm_row_off (by decide), pm_row_off (by decide), pm_row_off (by decide), pm_row_at]; unfold va_cpy; rw [if_pos (by omega), pm_set_off (by decide), show 0 + (i - 0) = i from by omega]
    · simp only [Nat.reduceAdd]; rw [pm_row_off (by decide), pm_row_off (by decide), pm_row_off (by decide), pm_row_at]; unfold va_cpy; rw [if_pos (by omega), pm_row_off (by decide), pm_set_off (by decide), show 0 + (i - 0) = i from by omega]
    · simp only [Nat.reduceAdd]; rw [pm_row_off (by decide), pm_row_off (by decide), pm_row_at]; unfold va_cpy; rw [if_pos (by omega), pm_row_off (by decide), pm_row_off (by decide), pm_set_off (by decide), show 0 + (i - 0) = i from by omega]
    · simp only [Nat.reduceAdd]; rw [pm_row_off (by decide), pm_row_at]; unfold va_cpy; rw [if_pos (by omega), pm_row_off (by decide), pm_row_off (by decide), pm_row_off (by decide), pm_set_off (by decide), show 0 + (i - 0) = i from by omega]
    · simp only [Nat.reduceAdd]; rw [pm_row_at]; unfold va_cpy; rw [if_pos (by omega), pm_row_off (by decide), pm_row_off (by decide), pm_row_off (by decide), pm_row_off (by decide), pm_set_off (by decide), show 0 + (i - 0) = i from by omega])
set_option maxHeartbeats 4000000 in
set_option maxRecDepth 100000 in
theorem c_X0_copyFrom_1_96 {g : Nat → Int32} (μ : pm_Mm) (hX : lr_Ra μ.1 96 g) (hn : lr_n g 228 ≤ 20) : pm_CT mi_X0_copyFrom [.ref 22, .ref 117] μ (fun v μ2 => v = none ∧ μ2.2 = μ.2 ∧ (∀ i, (i < 22 ∨ 25 < i) → μ2.1 i = μ.1 i) ∧ lr_Ra μ2.1 1 g) pm_NX := by
  refine pm_CT_of (lo := [some (.ref 22), some (.ref 117)]) (by decide +kernel) rfl rfl (by intro v hv; simp at hv; rcases hv with rfl | rfl <;> rfl) (Nat.le_of_ble_eq_true rfl) rfl ?_
  refine pm_bl [(.aload_n 0, 1, 0, 0, 0), (.aload_n 1, 1, 1, 0, 0), (.getfield 9, 3, 0, 0, 0), (.putfield 9, 3, 0, 0, 0), (.aload_n 1, 1, 1, 0, 0), (.getfield 15, 3, 0, 1, 0), (.aload_n 0, 1, 0, 0, 0), (.getfield 15, 3, 0, 1, 0)] (pc1 := 16) (lo1 := [some (.ref 22), some (.ref 117)]) (st1 := [.ref 23, .ref 118]) (μ1 := pm_set μ 22 0 (μ.1 117 0)) (vc := True) rfl (by decide +kernel) rfl trivial ?_
  refine pm_callSN2 mi_X9_copyRow (ix := 25) (host := RX9) (kc2 := 0) (ks2 := 0) (As := [.ref 118, .ref 23]) (rest := []) (c_X9_copyRow (a := 118) (b := 23) (n := 20) (pm_set μ 22 0 (μ.1 117 0)) rfl rfl (by decide)) cal_X9_copyRow (by decide +kernel) (by decide +kernel) (by decide +kernel) rfl rfl (Nat.le_of_ble_eq_true rfl) (by decide) (by decide) ?_
  rintro _ μ1 ⟨rfl, e1⟩
  show pm_V _ _ _ _ 19 _ [] _
  refine pm_bl [(.aload_n 1, 1, 1, 0, 0), (.getfield 19, 3, 0, 2, 0), (.aload_n 0, 1, 0, 0, 0), (.getfield 19, 3, 0, 2, 0)] (pc1 := 27) (lo1 := [some (.ref 22), some (.ref 117)]) (st1 := [.ref 24, .ref 119]) (μ1 := μ1) (vc := True) rfl (by decide +kernel) rfl trivial ?_
  refine pm_callSN2 mi_X9_copyRow (ix := 25) (host := RX9) (kc2 := 0) (ks2 := 0) (As := [.ref 119, .ref 24]) (rest := []) (c_X9_copyRow (a := 119) (b := 24) (n := 20) μ1 rfl rfl (by decide)) cal_X9_copyRow (by decide +kernel) (by decide +kernel) (by decide +kernel) rfl rfl (Nat.le_of_ble_eq_true rfl) (by decide) (by decide) ?_
  rintro _ μ2 ⟨rfl, e2⟩
  show pm_V _ _ _ _ 30 _ [] _
  refine pm_bl [(.aload_n 1, 1, 1, 0, 0), (.getfield 22, 3, 0, 3, 0), (.aload_n 0, 1, 0, 0, 0), (.getfield 22, 3, 0, 3, 0)] (pc1 := 38) (lo1 := [some (.ref 22), some (.ref 117)]) (st1 := [.ref 25, .ref 120]) (μ1 := μ2) (vc := True) rfl (by decide +kernel) rfl trivial ?_
  refine pm_callSN2 mi_X9_copyRow (ix := 25) (host := RX9) (kc2 := 0) (ks2 := 0) (As := [.ref 120, .ref 25]) (rest := []) (c_X9_copyRow (a := 120) (b := 25) (n := 20) μ2 rfl rfl (by decide)) cal_X9_copyRow (by decide +kernel) (by decide +kernel) (by decide +kernel) rfl rfl (Nat.le_of_ble_eq_true rfl) (by decide) (by decide) ?_
  rintro _ μ3 ⟨rfl, e3⟩
  show pm_V _ _ _ _ 41 _ [] _
  exact pm_vret rfl (by decide) (by decide) (by decide +kernel) (by
    subst e1; subst e2; subst e3
    refine ⟨rfl, rfl, fun i hi => by rw [pm_row_off (by omega), pm_row_off (by omega), pm_row_off (by omega), pm_set_off (by omega)], lr_Ra.mv (b := 96) (b2 := 1) hX hn (by simp only [Nat.reduceAdd]; rw [pm_row_off (by decide), pm_row_off (by decide), pm_row_off (by decide), pm_set_hit]) (fun k i h1 h2 h3 => ?_) (fun _ _ _ => rfl)⟩
    rcases (show k = 22 ∨ k = 23 ∨ k = 24 by omega) with rfl | rfl | rfl
    · simp only [Nat.reduceAdd]; rw [pm_row_off (by decide), pm_row_off (by decide), pm_row_at]; unfold va_cpy; rw [if_pos (by omega), pm_set_off (by decide), show 0 + (i - 0) = i from by omega]
    · simp only [Nat.reduceAdd]; rw [pm_row_off (by decide), pm_row_at]; unfold va_cpy; rw [if_pos (by omega), pm_row_off (by decide), pm_set_off (by decide), show 0 + (i - 0) = i from by omega]
    · simp only [Nat.reduceAdd]; rw [pm_row_at]; unfold va_cpy; rw [if_pos (by omega), pm_row_off (by decide), pm_row_off (by decide), pm_set_off (by decide), show 0 + (i - 0) = i from by omega])
set_option maxHeartbeats 4000000 in
set_option maxRecDepth 100000 in
theorem c_X4_copyFrom_1_96 {g : Nat → Int32} (μ : pm_Mm) (hX : lr_Rl μ.1 96 g) (hn : lr_n g 289 ≤ 30) : pm_CT mi_X4_copyFrom [.ref 26, .ref 121] μ (fun v μ2 => v = none ∧ μ2.2 = μ.2 ∧ (∀ i, (i < 26 ∨ 38 < i) → μ2.1 i = μ.1 i) ∧ lr_Rl μ2.1 1 g) pm_NX := by
  refine pm_CT_of (lo := [some (.ref 26), some (.ref 121)]) (by decide +kernel) rfl rfl (by intro v hv; simp at hv; rcases hv with rfl | rfl <;> rfl) (Nat.le_of_ble_eq_true rfl) rfl ?_
  refine pm_bl [(.aload_n 0, 1, 0, 0, 0), (.aload_n 1, 1, 1, 0, 0), (.getfield 9, 3, 4, 0, 0), (.putfield 9, 3, 4, 0, 0), (.aload_n 0, 1, 0, 0, 0), (.aload_n 1, 1, 1, 0, 0), (.getfield 15, 3, 4, 1, 0), (.putfield 15, 3, 4, 1, 0), (.aload_n 1, 1, 1, 0, 0), (.getfield 18, 3, 4, 2, 0), (.aload_n 0, 1, 0, 0, 0), (.getfield 18, 3, 4, 2, 0)] (pc1 := 24) (lo1 := [some (.ref 26), some (.ref 121)]) (st1 := [.ref 27, .ref 122]) (μ1 := pm_set (pm_set μ 26 0 (μ.1 121 0)) 26 1 ((pm_set μ 26 0 (μ.1 121 0)).1 121 1)) (vc := True) rfl (by decide +kernel) rfl trivial ?_
  rw [show (pm_set μ 26 0 (μ.1 121 0)).1 121 1 = μ.1 121 1 from by simp [pm_set]]
  refine pm_callSN2 mi_X9_copyRow (ix := 55) (host := RX9) (kc2 := 0) (ks2 := 0) (As := [.ref 122, .ref 27]) (rest := []) (c_X9_copyRow (a := 122) (b := 27) (n := 30) (pm_set (pm_set μ 26 0 (μ.1 121 0)) 26 1 (μ.1 121 1)) rfl rfl (by decide)) cal_X9_copyRow (by decide +kernel) (by decide +kernel) (by decide +kernel) rfl rfl (Nat.le_of_ble_eq_true rfl) (by decide) (by decide) ?_
  rintro _ μ1 ⟨rfl, e1⟩
  show pm_V _ _ _ _ 27 _ [] _
  refine pm_bl [(.aload_n 1, 1, 1, 0, 0), (.getfield 22, 3, 4, 3, 0), (.aload_n 0, 1, 0, 0, 0), (.getfield 22, 3, 4, 3, 0)] (pc1 := 35) (lo1 := [some (.ref 26), some (.ref 121)]) (st1 := [.ref 28, .ref 123]) (μ1 := μ1) (vc := True) rfl (by decide +kernel) rfl trivial ?_
  refine pm_callSN2 mi_X9_copyRow (ix := 55) (host := RX9) (kc2 := 0) (ks2 := 0) (As := [.ref 123, .ref 28]) (rest := []) (c_X9_copyRow (a := 123) (b := 28) (n := 30) μ1 rfl rfl (by decide)) cal_X9_copyRow (by decide +kernel) (by decide +kernel) (by decide +kernel) rfl rfl (Nat.le_of_ble_eq_true rfl) (by decide) (by decide) ?_
  rintro _ μ2 ⟨rfl, e2⟩
  show pm_V _ _ _ _ 38 _ [] _
  refine pm_bl [(.aload_n 1, 1, 1, 0, 0), (.getfield 25, 3, 4, 4, 0), (.aload_n 0, 1, 0, 0, 0), (.getfield 25, 3, 4, 4, 0)] (pc1 := 46) (lo1 := [some (.ref 26), some (.ref 121)]) (st1 := [.ref 29, .ref 124]) (μ1 := μ2) (vc := True) rfl (by decide +kernel) rfl trivial ?_
  refine pm_callSN2 mi_X9_copyRow (ix := 55) (host := RX9) (kc2 := 0) (ks2 := 0) (As := [.ref 124, .ref 29]) (rest := []) (c_X9_copyRow (a := 124) (b := 29) (n := 30) μ2 rfl rfl (by decide)) cal_X9_copyRow (by decide +kernel) (by decide +kernel) (by decide +kernel) rfl rfl (Nat.le_of_ble_eq_true rfl) (by decide) (by decide) ?_
  rintro _ μ3 ⟨rfl, e3⟩
  show pm_V _ _ _ _ 49 _ [] _
  refine pm_bl [(.aload_n 1, 1, 1, 0, 0), (.getfield 28, 3, 4, 5, 0), (.aload_n 0, 1, 0, 0, 0), (.getfield 28, 3, 4, 5, 0)] (pc1 := 57) (lo1 := [some (.ref 26), some (.ref 121)]) (st1 := [.ref 30, .ref 125]) (μ1 := μ3) (vc := True) rfl (by decide +kernel) rfl trivial ?_
  refine pm_callSN2 mi_X9_copyRow (ix := 55) (host := RX9) (kc2 := 0) (ks2 := 0) (As := [.ref 125, .ref 30]) (rest := []) (c_X9_copyRow (a := 125) (b := 30) (n := 30) μ3 rfl rfl (by decide)) cal_X9_copyRow (by decide +kernel) (by decide +kernel) (by decide +kernel) rfl rfl (Nat.le_of_ble_eq_true rfl) (by decide) (by decide) ?_
  rintro _ μ4 ⟨rfl, e4⟩
  show pm_V _ _ _ _ 60 _ [] _
  refine pm_bl [(.aload_n 1, 1, 1, 0, 0), (.getfield 31, 3, 4, 6, 0), (.aload_n 0, 1, 0, 0, 0), (.getfield 31, 3, 4, 6, 0)] (pc1 := 68) (lo1 := [some (.ref 26), some (.ref 121)]) (st1 := [.ref 31, .ref 126]) (μ1 := μ4) (vc := True) rfl (by decide +kernel) rfl trivial ?_
  refine pm_callSN2 mi_X9_copyRow (ix := 55) (host := RX9) (kc2 := 0) (ks2 := 0) (As := [.ref 126, .ref 31]) (rest := []) (c_X9_copyRow (a := 126) (b := 31) (n := 30) μ4 rfl rfl (by decide)) cal_X9_copyRow (by decide +kernel) (by decide +kernel) (by decide +kernel) rfl rfl (Nat.le_of_ble_eq_true rfl) (by decide) (by decide) ?_
  rintro _ μ5 ⟨rfl, e5⟩
  show pm_V _ _ _ _ 71 _ [] _
  refine pm_bl [(.aload_n 1, 1, 1, 0, 0), (.getfield 34, 3, 4, 7, 0), (.aload_n 0, 1, 0, 0, 0), (.getfield 34, 3, 4, 7, 0)] (pc1 := 79) (lo1 := [some (.ref 26), some (.ref 121)]) (st1 := [.ref 32, .ref 127]) (μ1 := μ5) (vc := True) rfl (by decide +kernel) rfl trivial ?_
  refine pm_callSN2 mi_X9_copyRow (ix := 55) (host := RX9) (kc2 := 0) (ks2 := 0) (As := [.ref 127, .ref 32]) (rest := []) (c_X9_copyRow (a := 127) (b := 32) (n := 30) μ5 rfl rfl (by decide)) cal_X9_copyRow (by decide +kernel) (by decide +kernel) (by decide +kernel) rfl rfl (Nat.le_of_ble_eq_true rfl) (by decide) (by decide) ?_
  rintro _ μ6 ⟨rfl, e6⟩
  show pm_V _ _ _ _ 82 _ [] _
  refine pm_bl [(.aload_n 1, 1, 1, 0, 0), (.getfield 37, 3, 4, 8, 0), (.aload_n 0, 1, 0, 0, 0), (.getfield 37, 3, 4, 8, 0)] (pc1 := 90) (lo1 := [some (.ref 26), some (.ref 121)]) (st1 := [.ref 33, .ref 128]) (μ1 := μ6) (vc := True) rfl (by decide +kernel) rfl trivial ?_
  refine pm_callSN2 mi_X9_copyRow (ix := 55) (host := RX9) (kc2 := 0) (ks2 := 0) (As := [.ref 128, .ref 33]) (rest := []) (c_X9_copyRow (a := 128) (b := 33) (n := 30) μ6 rfl rfl (by decide)) cal_X9_copyRow (by decide +kernel) (by decide +kernel) (by decide +kernel) rfl rfl (Nat.le_of_ble_eq_true rfl) (by decide) (by decide) ?_
  rintro _ μ7 ⟨rfl, e7⟩
  show pm_V _ _ _ _ 93 _ [] _
  refine pm_bl [(.aload_n 1, 1, 1, 0, 0), (.getfield 40, 3, 4, 9, 0), (.aload_n 0, 1, 0, 0, 0), (.getfield 40, 3, 4, 9, 0)] (pc1 := 101) (lo1 := [some (.ref 26), some (.ref 121)]) (st1 := [.ref 34, .ref 129]) (μ1 := μ7) (vc := True) rfl (by decide +kernel) rfl trivial ?_
  refine pm_callSN2 mi_X9_copyRow (ix := 55) (host := RX9) (kc2 := 0) (ks2 := 0) (As := [.ref 129, .ref 34]) (rest := []) (c_X9_copyRow (a := 129) (b := 34) (n := 30) μ7 rfl rfl (by decide)) cal_X9_copyRow (by decide +kernel) (by decide +kernel) (by decide +kernel) rfl rfl (Nat.le_of_ble_eq_true rfl) (by decide) (by decide) ?_
  rintro _ μ8 ⟨rfl, e8⟩
  show pm_V _ _ _ _ 104 _ [] _
  refine pm_bl [(.aload_n 1, 1, 1, 0, 0), (.getfield 43, 3, 4, 10, 0), (.aload_n 0, 1, 0, 0, 0), (.getfield 43, 3, 4, 10, 0)] (pc1 := 112) (lo1 := [some (.ref 26), some (.ref 121)]) (st1 := [.ref 35, .ref 130]) (μ1 := μ8) (vc := True) rfl (by decide +kernel) rfl trivial ?_
  refine pm_callSN2 mi_X9_copyRow (ix := 55) (host := RX9) (kc2 := 0) (ks2 := 0) (As := [.ref 130, .ref 35]) (rest := []) (c_X9_copyRow (a := 130) (b := 35) (n := 30) μ8 rfl rfl (by decide)) cal_X9_copyRow (by decide +kernel) (by decide +kernel) (by decide +kernel) rfl rfl (Nat.le_of_ble_eq_true rfl) (by decide) (by decide) ?_
  rintro _ μ9 ⟨rfl, e9⟩
  show pm_V _ _ _ _ 115 _ [] _
  refine pm_bl [(.aload_n 1, 1, 1, 0, 0), (.getfield 46, 3, 4, 11, 0), (.aload_n 0, 1, 0, 0, 0), (.getfield 46, 3, 4, 11, 0)] (pc1 := 123) (lo1 := [some (.ref 26), some (.ref 121)]) (st1 := [.ref 36, .ref 131]) (μ1 := μ9) (vc := True) rfl (by decide +kernel) rfl trivial ?_
  refine pm_callSN2 mi_X9_copyRow (ix := 55) (host := RX9) (kc2 := 0) (ks2 := 0) (As := [.ref 131, .ref 36]) (rest := []) (c_X9_copyRow (a := 131) (b := 36) (n := 30) μ9 rfl rfl (by decide)) cal_X9_copyRow (by decide +kernel) (by decide +kernel) (by decide +kernel) rfl rfl (Nat.le_of_ble_eq_true rfl) (by decide) (by decide) ?_
  rintro _ μ10 ⟨rfl, e10⟩
  show pm_V _ _ _ _ 126 _ [] _
  refine pm_bl [(.aload_n 1, 1, 1, 0, 0), (.getfield 49, 3, 4, 12, 0), (.aload_n 0, 1, 0, 0, 0), (.getfield 49, 3, 4, 12, 0)] (pc1 := 134) (lo1 := [some (.ref 26), some (.ref 121)]) (st1 := [.ref 37, .ref 132]) (μ1 := μ10) (vc := True) rfl (by decide +kernel) rfl trivial ?_
  refine pm_callSN2 mi_X9_copyRow (ix := 55) (host := RX9) (kc2 := 0) (ks2 := 0) (As := [.ref 132, .ref 37]) (rest := []) (c_X9_copyRow (a := 132) (b := 37) (n := 30) μ10 rfl rfl (by decide)) cal_X9_copyRow (by decide +kernel) (by decide +kernel) (by decide +kernel) rfl rfl (Nat.le_of_ble_eq_true rfl) (by decide) (by decide) ?_
  rintro _ μ11 ⟨rfl, e11⟩
  show pm_V _ _ _ _ 137 _ [] _
  refine pm_bl [(.aload_n 1, 1, 1, 0, 0), (.getfield 52, 3, 4, 13, 0), (.aload_n 0, 1, 0, 0, 0), (.getfield 52, 3, 4, 13, 0)] (pc1 := 145) (lo1 := [some (.ref 26), some (.ref 121)]) (st1 := [.ref 38, .ref 133]) (μ1 := μ11) (vc := True) rfl (by decide +kernel) rfl trivial ?_
  refine pm_callSN2 mi_X9_copyRow (ix := 55) (host := RX9) (kc2 := 0) (ks2 := 0) (As := [.ref 133, .ref 38]) (rest := []) (c_X9_copyRow (a := 133) (b := 38) (n := 30) μ11 rfl rfl (by decide)) cal_X9_copyRow (by decide +kernel) (by decide +kernel) (by decide +kernel) rfl rfl (Nat.le_of_ble_eq_true rfl) (by decide) (by decide) ?_
  rintro _ μ12 ⟨rfl, e12⟩
  show pm_V _ _ _ _ 148 _ [] _
  exact pm_vret rfl (by decide) (by decide) (by decide +kernel) (by
    subst e1; subst e2; subst e3; subst e4; subst e5; subst e6; subst e7; subst e8; subst e9; subst e10; subst e11; subst e12
    refine ⟨rfl, rfl, fun i hi => by rw [pm_row_off (by omega), pm_row_off (by omega), pm_row_off (by omega), pm_row_off (by omega), pm_row_off (by omega), pm_row_off (by omega), pm_row_off (by omega), pm_row_off (by omega), pm_row_off (by omega), pm_row_off (by omega), pm_row_off (by omega), pm_row_off (by omega), pm_set_off (by omega), pm_set_off (by omega)], lr_Rl.mv (b := 96) (b2 := 1) hX hn (by simp only [Nat.reduceAdd]; rw [pm_row_off (by decide), pm_row_off (by decide), pm_row_off (by decide), pm_row_off (by decide), pm_row_off (by decide), pm_row_off (by decide), pm_row_off (by decide), pm_row_off (by decide), pm_row_off (by decide), pm_row_off (by decide), pm_row_off (by decide), pm_row_off (by decide), pm_set_miss (Or.inr (by decide)), pm_set_hit]) (by simp only [Nat.reduceAdd]; rw [pm_row_off (by decide), pm_row_off (by decide), pm_row_off (by decide), pm_row_off (by decide), pm_row_off (by decide), pm_row_off (by decide), pm_row_off (by decide), pm_row_off (by decide), pm_row_off (by decide), pm_row_off (by decide), pm_row_off (by decide), pm_row_off (by decide), pm_set_hit]) (fun k i h1 h2 h3 => ?_) (fun _ _ _ => rfl) rfl⟩
    rcases (show k = 26 ∨ k = 27 ∨ k = 28 ∨ k = 29 ∨ k = 30 ∨ k = 31 ∨ k = 32 ∨ k = 33 ∨ k = 34 ∨ k = 35 ∨ k = 36 ∨ k = 37 by omega) with rfl | rfl | rfl | rfl | rfl | rfl | rfl | rfl | rfl | rfl | rfl | rfl
    · simp only [Nat.reduceAdd]; rw [pm_row_off (by decide), pm_row_off (by decide), pm_row_off (by decide), pm_row_off (by decide), pm_row_off (by decide), pm_row_off (by decide), pm_row_off (by decide), pm_row_off (by decide), pm_row_off (by decide), pm_row_off (by decide), pm_row_off (by decide), pm_row_at]; unfold va_cpy; rw [if_pos (by omega), pm_set_off (by decide), pm_set_off (by decide), show 0 + (i - 0) = i from by omega]
    · simp only [Nat.reduceAdd]; rw [pm_row_off (by decide), pm_row_off (by decide), pm_row_off (by decide), pm_row_off (by decide), pm_row_off (by decide), pm_row_off (by decide), pm_row_off (by decide), pm_row_off (by decide), pm_row_off (by decide), pm_row_off (by decide), pm_row_at]; unfold va_cpy; rw [if_pos (by omega), pm_row_off (by decide), pm_set_off (by decide), pm_set_off (by decide), show 0 + (i - 0) = i from by omega]
    · simp only [Nat.reduceAdd]; rw [pm_row_off (by decide), pm_row_off (by decide), pm_row_off (by decide), pm_row_off (by decide), pm_row_off (by decide), pm_row_off (by decide), pm_row_off (by decide), pm_row_off (by decide), pm_row_off (by decide), pm_row_at]; unfold va_cpy; rw [if_pos (by omega), pm_row_off (by decide), pm_row_off (by decide), pm_set_off (by decide), pm_set_off (by decide), show 0 + (i - 0) = i from by omega]
    · simp only [Nat.reduceAdd]; rw [pm_row_off (by decide), pm_row_off (by decide), pm_row_off (by decide), pm_row_off (by decide), pm_row_off (by decide), pm_row_off (by decide), pm_row_off (by decide), pm_row_off (by decide), pm_row_at]; unfold va_cpy; rw [if_pos (by omega), pm_row_off (by decide), pm_row_off (by decide), pm_row_off (by decide), pm_set_off (by decide), pm_set_off (by decide), show 0 + (i - 0) = i from by omega]
    · simp only [Nat.reduceAdd]; rw [pm_row_off (by decide), pm_row_off (by decide), pm_row_off (by decide), pm_row_off (by decide), pm_row_off (by decide), pm_row_off (by decide), pm_row_off (by decide), pm_row_at]; unfold va_cpy; rw [if_pos (by omega), pm_row_off (by decide), pm_row_off (by decide), pm_row_off (by decide), pm_row_off (by decide), pm_set_off (by decide), pm_set_off (by decide), show 0 + (i - 0) = i from by omega]
    · simp only [Nat.reduceAdd]; rw [pm_row_off (by decide), pm_row_off (by decide), pm_row_off (by decide), pm_row_off (by decide), pm_row_off (by decide), pm_row_off (by decide), pm_row_at]; unfold va_cpy; rw [if_pos (by omega), pm_row_off (by decide), pm_row_off (by decide), pm_row_off (by decide), pm_row_off (by decide), pm_row_off (by decide), pm_set_off (by decide), pm_set_off (by decide), show 0 + (i - 0) = i from by omega]
    · simp only [Nat.reduceAdd]; rw [pm_row_off (by decide), pm_row_off (by decide), pm_row_off (by decide), pm_row_off (by decide), pm_row_off (by decide), pm_row_at]; unfold va_cpy; rw [if_pos (by omega), pm_row_off (by decide), pm_row_off (by decide), pm_row_off (by decide), pm_row_off (by decide), pm_row_off (by decide), pm_row_off (by decide), pm_set_off (by decide), pm_set_off (by decide), show 0 + (i - 0) = i from by omega]
    · simp only [Nat.reduceAdd]; rw [pm_row_off (by decide), pm_row_off (by decide), pm_row_off (by decide), pm_row_off (by decide), pm_row_at]; unfold va_cpy; rw [if_pos (by omega), pm_row_off (by decide), pm_row_off (by decide), pm_row_off (by decide), pm_row_off (by decide), pm_row_off (by decide), pm_row_off (by decide), pm_row_off (by decide), pm_set_off (by decide), pm_set_off (by decide), show 0 + (i - 0) = i from by omega]
    · simp only [Nat.reduceAdd]; rw [pm_row_off (by decide), pm_row_off (by decide), pm_row_off (by decide), pm_row_at]; unfold va_cpy; rw [if_pos (by omega), pm_row_off (by decide), pm_row_off (by decide), pm_row_off (by decide), pm_row_off (by decide), pm_row_off (by decide), pm_row_off (by decide), pm_row_off (by decide), pm_row_off (by decide), pm_set_off (by decide), pm_set_off (by decide), show 0 + (i - 0) = i from by omega]
    · simp only [Nat.reduceAdd]; rw [pm_row_off (by decide), pm_row_off (by decide), pm_row_at]; unfold va_cpy; rw [if_pos (by omega), pm_row_off (by decide), pm_row_off (by decide), pm_row_off (by decide), pm_row_off (by decide), pm_row_off (by decide), pm_row_off (by decide), pm_row_off (by decide), pm_row_off (by decide), pm_row_off (by decide), pm_set_off (by decide), pm_set_off (by decide), show 0 + (i - 0) = i from by omega]
    · simp only [Nat.reduceAdd]; rw [pm_row_off (by decide), pm_row_at]; unfold va_cpy; rw [if_pos (by omega), pm_row_off (by decide), pm_row_off (by decide), pm_row_off (by decide), pm_row_off (by decide), pm_row_off (by decide), pm_row_off (by decide), pm_row_off (by decide), pm_row_off (by decide), pm_row_off (by decide), pm_row_off (by decide), pm_set_off (by decide), pm_set_off (by decide), show 0 + (i - 0) = i from by omega]
    · simp only [Nat.reduceAdd]; rw [pm_row_at]; unfold va_cpy; rw [if_pos (by omega), pm_row_off (by decide), pm_row_off (by decide), pm_row_off (by decide), pm_row_off (by decide), pm_row_off (by decide), pm_row_off (by decide), pm_row_off (by decide), pm_row_off (by decide), pm_row_off (by decide), pm_row_off (by decide), pm_row_off (by decide), pm_set_off (by decide), pm_set_off (by decide), show 0 + (i - 0) = i from by omega])
set_option maxHeartbeats 4000000 in
set_option maxRecDepth 100000 in
theorem c_X5_copyFrom_1_96 {g : Nat → Int32} (μ : pm_Mm) (hR : lr_Rel μ.1 96 g) (hB : lr_B g) : pm_CT mi_X5_copyFrom [.ref 1, .ref 96] μ (fun v μ2 => v = none ∧ μ2.2 = μ.2 ∧ (∀ i, (i < 1 ∨ 39 < i) → μ2.1 i = μ.1 i) ∧ lr_Rel μ2.1 1 g) pm_NX := by
  refine pm_CT_of (lo := [some (.ref 1), some (.ref 96)]) (by decide +kernel) rfl rfl (by intro v hv; simp at hv; rcases hv with rfl | rfl <;> rfl) (Nat.le_of_ble_eq_true rfl) rfl ?_
  obtain ⟨hm1, hm3, hm2, hm4, hm5, hm6⟩ := id hB
  refine pm_bl [(.aload_n 0, 1, 0, 0, 0), (.getfield 12, 3, 5, 0, 0), (.aload_n 1, 1, 1, 0, 0), (.getfield 12, 3, 5, 0, 0)] (pc1 := 8) (lo1 := [some (.ref 1), some (.ref 96)]) (st1 := [.ref 97, .ref 2]) (μ1 := μ) (vc := True) rfl (by decide +kernel) rfl trivial ?_
  refine pm_callV2 mi_X3_copyFrom (ix := 61) (b := 2) (ci := 3) (kc2 := 0) (ks2 := 0) (As := [.ref 97]) (rest := []) (c_X3_copyFrom_1_96 μ hR.2.1 hm1) cal_X3_copyFrom lk5_61 (by decide +kernel) rfl (by decide +kernel) rfl rfl rfl rfl (Nat.le_of_ble_eq_true rfl) (by decide) (by decide) (fun _ _ h9 => h9.elim) ?_
  rintro _ μ1 ⟨rfl, x1, f1, r1⟩
  show pm_V _ _ _ _ 11 _ [] _
  refine pm_bl [(.aload_n 0, 1, 0, 0, 0), (.getfield 21, 3, 5, 1, 0), (.aload_n 1, 1, 1, 0, 0), (.getfield 21, 3, 5, 1, 0)] (pc1 := 19) (lo1 := [some (.ref 1), some (.ref 96)]) (st1 := [.ref 100, .ref 5]) (μ1 := μ1) (vc := True) rfl (by decide +kernel) rfl trivial ?_
  refine pm_callV2 mi_X6_copyFrom (ix := 65) (b := 5) (ci := 6) (kc2 := 0) (ks2 := 0) (As := [.ref 100]) (rest := []) (c_X6_copyFrom_1_96 μ1 (lr_Rp.st (b := 96) hR.2.2.1 hm3 (fun k h1 h2 => by rw [f1 _ (by omega)]) (fun _ _ _ => rfl)) hm3) cal_X6_copyFrom lk5_65 (by decide +kernel) rfl (by decide +kernel) rfl rfl rfl rfl (Nat.le_of_ble_eq_true rfl) (by decide) (by decide) (fun _ _ h9 => h9.elim) ?_
  rintro _ μ2 ⟨rfl, x2, f2, r2⟩
  show pm_V _ _ _ _ 22 _ [] _
  refine pm_bl [(.aload_n 0, 1, 0, 0, 0), (.getfield 28, 3, 5, 2, 0), (.aload_n 1, 1, 1, 0, 0), (.getfield 28, 3, 5, 2, 0)] (pc1 := 30) (lo1 := [some (.ref 1), some (.ref 96)]) (st1 := [.ref 105, .ref 10]) (μ1 := μ2) (vc := True) rfl (by decide +kernel) rfl trivial ?_
  refine pm_callV2 mi_X8_copyFrom (ix := 68) (b := 10) (ci := 8) (kc2 := 0) (ks2 := 0) (As := [.ref 105]) (rest := []) (c_X8_copyFrom_1_96 μ2 (lr_Rw.st (b := 96) hR.2.2.2.1 hm2 (fun k h1 h2 => by rw [f2 _ (by omega), f1 _ (by omega)]) (fun _ _ _ => rfl)) hm2) cal_X8_copyFrom lk5_68 (by decide +kernel) rfl (by decide +kernel) rfl rfl rfl rfl (Nat.le_of_ble_eq_true rfl) (by decide) (by decide) (fun _ _ h9 => h9.elim) ?_
  rintro _ μ3 ⟨rfl, x3, f3, r3⟩
  show pm_V _ _ _ _ 33 _ [] _
  refine pm_bl [(.aload_n 0, 1, 0, 0, 0), (.getfield 35, 3, 5, 3, 0), (.aload_n 1, 1, 1, 0, 0), (.getfield 35, 3, 5, 3, 0)] (pc1 := 41) (lo1 := [some (.ref 1), some (.ref 96)]) (st1 := [.ref 111, .ref 16]) (μ1 := μ3) (vc := True) rfl (by decide +kernel) rfl trivial ?_
  refine pm_callV2 mi_X7_copyFrom (ix := 71) (b := 16) (ci := 7) (kc2 := 0) (ks2 := 0) (As := [.ref 111]) (rest := []) (c_X7_copyFrom_1_96 μ3 (lr_Rr.st (b := 96) hR.2.2.2.2.1 hm4 (fun k h1 h2 => by rw [f3 _ (by omega), f2 _ (by omega), f1 _ (by omega)]) (fun _ _ _ => rfl)) hm4) cal_X7_copyFrom lk5_71 (by decide +kernel) rfl (by decide +kernel) rfl rfl rfl rfl (Nat.le_of_ble_eq_true rfl) (by decide) (by decide) (fun _ _ h9 => h9.elim) ?_
  rintro _ μ4 ⟨rfl, x4, f4, r4⟩
  show pm_V _ _ _ _ 44 _ [] _
  refine pm_bl [(.aload_n 0, 1, 0, 0, 0), (.getfield 42, 3, 5, 4, 0), (.aload_n 1, 1, 1, 0, 0), (.getfield 42, 3, 5, 4, 0)] (pc1 := 52) (lo1 := [some (.ref 1), some (.ref 96)]) (st1 := [.ref 117, .ref 22]) (μ1 := μ4) (vc := True) rfl (by decide +kernel) rfl trivial ?_
  refine pm_callV2 mi_X0_copyFrom (ix := 74) (b := 22) (ci := 0) (kc2 := 0) (ks2 := 0) (As := [.ref 117]) (rest := []) (c_X0_copyFrom_1_96 μ4 (lr_Ra.st (b := 96) hR.2.2.2.2.2.1 hm5 (fun k h1 h2 => by rw [f4 _ (by omega), f3 _ (by omega), f2 _ (by omega), f1 _ (by omega)]) (fun _ _ _ => rfl)) hm5) cal_X0_copyFrom lk5_74 (by decide +kernel) rfl (by decide +kernel) rfl rfl rfl rfl (Nat.le_of_ble_eq_true rfl) (by decide) (by decide) (fun _ _ h9 => h9.elim) ?_
  rintro _ μ5 ⟨rfl, x5, f5, r5⟩
  show pm_V _ _ _ _ 55 _ [] _
  refine pm_bl [(.aload_n 0, 1, 0, 0, 0), (.getfield 49, 3, 5, 5, 0), (.aload_n 1, 1, 1, 0, 0), (.getfield 49, 3, 5, 5, 0)] (pc1 := 63) (lo1 := [some (.ref 1), some (.ref 96)]) (st1 := [.ref 121, .ref 26]) (μ1 := μ5) (vc := True) rfl (by decide +kernel) rfl trivial ?_
  refine pm_callV2 mi_X4_copyFrom (ix := 77) (b := 26) (ci := 4) (kc2 := 0) (ks2 := 0) (As := [.ref 121]) (rest := []) (c_X4_copyFrom_1_96 μ5 (lr_Rl.st (b := 96) hR.2.2.2.2.2.2 hm6 (fun k h1 h2 => by rw [f5 _ (by omega), f4 _ (by omega), f3 _ (by omega), f2 _ (by omega), f1 _ (by omega)]) rfl (fun _ _ _ => rfl)) hm6) cal_X4_copyFrom lk5_77 (by decide +kernel) rfl (by decide +kernel) rfl rfl rfl rfl (Nat.le_of_ble_eq_true rfl) (by decide) (by decide) (fun _ _ h9 => h9.elim) ?_
  rintro _ μ6 ⟨rfl, x6, f6, r6⟩
  show pm_V _ _ _ _ 66 _ [] _
  refine pm_bl [(.aload_n 0, 1, 0, 0, 0), (.aload_n 1, 1, 1, 0, 0), (.getfield 53, 3, 5, 6, 0), (.putfield 53, 3, 5, 6, 0)] (pc1 := 74) (lo1 := [some (.ref 1), some (.ref 96)]) (st1 := []) (μ1 := pm_set μ6 1 6 (μ6.1 96 6)) (vc := True) rfl (by decide +kernel) rfl trivial ?_
  exact pm_vret rfl (by decide) (by decide) (by decide +kernel) (⟨rfl, (x6.trans (x5.trans (x4.trans (x3.trans (x2.trans x1))))), fun i hi => by rw [pm_set_off (by omega), f6 _ (by omega), f5 _ (by omega), f4 _ (by omega), f3 _ (by omega), f2 _ (by omega), f1 _ (by omega)], by rw [pm_set_hit, f6 _ (by omega), f5 _ (by omega), f4 _ (by omega), f3 _ (by omega), f2 _ (by omega), f1 _ (by omega)]; exact hR.1, lr_Rh.st (b := 1) r1 hm1 (fun k h1 h2 => by rw [pm_set_off (by omega), f6 _ (by omega), f5 _ (by omega), f4 _ (by omega), f3 _ (by omega), f2 _ (by omega)]) (fun _ _ _ => rfl), lr_Rp.st (b := 1) r2 hm3 (fun k h1 h2 => by rw [pm_set_off (by omega), f6 _ (by omega), f5 _ (by omega), f4 _ (by omega), f3 _ (by omega)]) (fun _ _ _ => rfl), lr_Rw.st (b := 1) r3 hm2 (fun k h1 h2 => by rw [pm_set_off (by omega), f6 _ (by omega), f5 _ (by omega), f4 _ (by omega)]) (fun _ _ _ => rfl), lr_Rr.st (b := 1) r4 hm4 (fun k h1 h2 => by rw [pm_set_off (by omega), f6 _ (by omega), f5 _ (by omega)]) (fun _ _ _ => rfl), lr_Ra.st (b := 1) r5 hm5 (fun k h1 h2 => by rw [pm_set_off (by omega), f6 _ (by omega)]) (fun _ _ _ => rfl), lr_Rl.st (b := 1) r6 hm6 (fun k h1 h2 => by rw [pm_set_off (by omega)]) rfl (fun _ _ _ => rfl)⟩)
set_option maxHeartbeats 4000000 in
set_option maxRecDepth 100000 in
theorem c_X3_copyFrom_1_135 {g : Nat → Int32} (μ : pm_Mm) (hX : lr_Rh μ.1 135 g) (hn : lr_n g 2 ≤ 16) : pm_CT mi_X3_copyFrom [.ref 2, .ref 136] μ (fun v μ2 => v = none ∧ μ2.2 = μ.2 ∧ (∀ i, (i < 2 ∨ 4 < i) → μ2.1 i = μ.1 i) ∧ lr_Rh μ2.1 1 g) pm_NX := by
  refine pm_CT_of (lo := [some (.ref 2), some (.ref 136)]) (by decide +kernel) rfl rfl (by intro v hv; simp at hv; rcases hv with rfl | rfl <;> rfl) (Nat.le_of_ble_eq_true rfl) rfl ?_
  refine pm_bl [(.aload_n 0, 1, 0, 0, 0), (.aload_n 1, 1, 1, 0, 0), (.getfield 9, 3, 3, 0, 0), (.putfield 9, 3, 3, 0, 0), (.aload_n 1, 1, 1, 0, 0), (.getfield 15, 3, 3, 1, 0), (.aload_n 0, 1, 0, 0, 0), (.getfield 15, 3, 3, 1, 0)] (pc1 := 16) (lo1 := [some (.ref 2), some (.ref 136)]) (st1 := [.ref 3, .ref 137]) (μ1 := pm_set μ 2 0 (μ.1 136 0)) (vc := True) rfl (by decide +kernel) rfl trivial ?_
  refine pm_callSN2 mi_X9_copyRow (ix := 22) (host := RX9) (kc2 := 0) (ks2 := 0) (As := [.ref 137, .ref 3]) (rest := []) (c_X9_copyRow (a := 137) (b := 3) (n := 16) (pm_set μ 2 0 (μ.1 136 0)) rfl rfl (by decide)) cal_X9_copyRow (by decide +kernel) (by decide +kernel) (by decide +kernel) rfl rfl (Nat.le_of_ble_eq_true rfl) (by decide) (by decide) ?_
  rintro _ μ1 ⟨rfl, e1⟩
  show pm_V _ _ _ _ 19 _ [] _
  refine pm_bl [(.aload_n 1, 1, 1, 0, 0), (.getfield 19, 3, 3, 2, 0), (.aload_n 0, 1, 0, 0, 0), (.getfield 19, 3, 3, 2, 0)] (pc1 := 27) (lo1 := [some (.ref 2), some (.ref 136)]) (st1 := [.ref 4, .ref 138]) (μ1 := μ1) (vc := True) rfl (by decide +kernel) rfl trivial ?_
  refine pm_callSN2 mi_X9_copyRow (ix := 22) (host := RX9) (kc2 := 0) (ks2 := 0) (As := [.ref 138, .ref 4]) (rest := []) (c_X9_copyRow (a := 138) (b := 4) (n := 16) μ1 rfl rfl (by decide)) cal_X9_copyRow (by decide +kernel) (by decide +kernel) (by decide +kernel) rfl rfl (Nat.le_of_ble_eq_true rfl) (by decide) (by decide) ?_
  rintro _ μ2 ⟨rfl, e2⟩
  show pm_V _ _ _ _ 30 _ [] _
  exact pm_vret rfl (by decide) (by decide) (by decide +kernel) (by
    subst e1; subst e2
    refine ⟨rfl, rfl, fun i hi => by rw [pm_row_off (by omega), pm_row_off (by omega), pm_set_off (by omega)], lr_Rh.mv (b := 135) (b2 := 1) hX hn (by simp only [Nat.reduceAdd]; rw [pm_row_off (by decide), pm_row_off (by decide), pm_set_hit]) (fun k i h1 h2 h3 => ?_) (fun _ _ _ => rfl)⟩
    rcases (show k = 2 ∨ k = 3 by omega) with rfl | rfl
    · simp only [Nat.reduceAdd]; rw [pm_row_off (by decide), pm_row_at]; unfold va_cpy; rw [if_pos (by omega), pm_set_off (by decide), show 0 + (i - 0) = i from by omega]
    · simp only [Nat.reduceAdd]; rw [pm_row_at]; unfold va_cpy; rw [if_pos (by omega), pm_row_off (by decide), pm_set_off (by decide), show 0 + (i - 0) = i from by omega])
set_option maxHeartbeats 4000000 in
set_option maxRecDepth 100000 in
theorem c_X6_copyFrom_1_135 {g : Nat → Int32} (μ : pm_Mm) (hX : lr_Rp μ.1 135 g) (hn : lr_n g 35 ≤ 20) : pm_CT mi_X6_copyFrom [.ref 5, .ref 139] μ (fun v μ2 => v = none ∧ μ2.2 = μ.2 ∧ (∀ i, (i < 5 ∨ 9 < i) → μ2.1 i = μ.1 i) ∧ lr_Rp μ2.1 1 g) pm_NX := by
  refine pm_CT_of (lo := [some (.ref 5), some (.ref 139)]) (by decide +kernel) rfl rfl (by intro v hv; simp at hv; rcases hv with rfl | rfl <;> rfl) (Nat.le_of_ble_eq_true rfl) rfl ?_
  refine pm_bl [(.aload_n 0, 1, 0, 0, 0), (.aload_n 1, 1, 1, 0, 0), (.getfield 9, 3, 6, 0, 0), (.putfield 9, 3, 6, 0, 0), (.aload_n 1, 1, 1, 0, 0), (.getfield 15, 3, 6, 1, 0), (.aload_n 0, 1, 0, 0, 0), (.getfield 15, 3, 6, 1, 0)] (pc1 := 16) (lo1 := [some (.ref 5), some (.ref 139)]) (st1 := [.ref 6, .ref 140]) (μ1 := pm_set μ 5 0 (μ.1 139 0)) (vc := True) rfl (by decide +kernel) rfl trivial ?_
  refine pm_callSN2 mi_X9_copyRow (ix := 28) (host := RX9) (kc2 := 0) (ks2 := 0) (As := [.ref 140, .ref 6]) (rest := []) (c_X9_copyRow (a := 140) (b := 6) (n := 20) (pm_set μ 5 0 (μ.1 139 0)) rfl rfl (by decide)) cal_X9_copyRow (by decide +kernel) (by decide +kernel) (by decide +kernel) rfl rfl (Nat.le_of_ble_eq_true rfl) (by decide) (by decide) ?_
  rintro _ μ1 ⟨rfl, e1⟩
  show pm_V _ _ _ _ 19 _ [] _
  refine pm_bl [(.aload_n 1, 1, 1, 0, 0), (.getfield 19, 3, 6, 2, 0), (.aload_n 0, 1, 0, 0, 0), (.getfield 19, 3, 6, 2, 0)] (pc1 := 27) (lo1 := [some (.ref 5), some (.ref 139)]) (st1 := [.ref 7, .ref 141]) (μ1 := μ1) (vc := True) rfl (by decide +kernel) rfl trivial ?_
  refine pm_callSN2 mi_X9_copyRow (ix := 28) (host := RX9) (kc2 := 0) (ks2 := 0) (As := [.ref 141, .ref 7]) (rest := []) (c_X9_copyRow (a := 141) (b := 7) (n := 20) μ1 rfl rfl (by decide)) cal_X9_copyRow (by decide +kernel) (by decide +kernel) (by decide +kernel) rfl rfl (Nat.le_of_ble_eq_true rfl) (by decide) (by decide) ?_
  rintro _ μ2 ⟨rfl, e2⟩
  show pm_V _ _ _ _ 30 _ [] _
  refine pm_bl [(.aload_n 1, 1, 1, 0, 0), (.getfield 22, 3, 6, 3, 0), (.aload_n 0, 1, 0, 0, 0), (.getfield 22, 3, 6, 3, 0)] (pc1 := 38) (lo1 := [some (.ref 5), some (.ref 139)]) (st1 := [.ref 8, .ref 142]) (μ1 := μ2) (vc := True) rfl (by decide +kernel) rfl trivial ?_
  refine pm_callSN2 mi_X9_copyRow (ix := 28) (host := RX9) (kc2 := 0) (ks2 := 0) (As := [.ref 142, .ref 8]) (rest := []) (c_X9_copyRow (a := 142) (b := 8) (n := 20) μ2 rfl rfl (by decide)) cal_X9_copyRow (by decide +kernel) (by decide +kernel) (by decide +kernel) rfl rfl (Nat.le_of_ble_eq_true rfl) (by decide) (by decide) ?_
  rintro _ μ3 ⟨rfl, e3⟩
  show pm_V _ _ _ _ 41 _ [] _
  refine pm_bl [(.aload_n 1, 1, 1, 0, 0), (.getfield 25, 3, 6, 4, 0), (.aload_n 0, 1, 0, 0, 0), (.getfield 25, 3, 6, 4, 0)] (pc1 := 49) (lo1 := [some (.ref 5), some (.ref 139)]) (st1 := [.ref 9, .ref 143]) (μ1 := μ3) (vc := True) rfl (by decide +kernel) rfl trivial ?_
  refine pm_callSN2 mi_X9_copyRow (ix := 28) (host := RX9) (kc2 := 0) (ks2 := 0) (As := [.ref 143, .ref 9]) (rest := []) (c_X9_copyRow (a := 143) (b := 9) (n := 20) μ3 rfl rfl (by decide)) cal_X9_copyRow (by decide +kernel) (by decide +kernel) (by decide +kernel) rfl rfl (Nat.le_of_ble_eq_true rfl) (by decide) (by decide) ?_
  rintro _ μ4 ⟨rfl, e4⟩
  show pm_V _ _ _ _ 52 _ [] _
  exact pm_vret rfl (by decide) (by decide) (by decide +kernel) (by
    subst e1; subst e2; subst e3; subst e4
    refine ⟨rfl, rfl, fun i hi => by rw [pm_row_off (by omega), pm_row_off (by omega), pm_row_off (by omega), pm_row_off (by omega), pm_set_off (by omega)], lr_Rp.mv (b := 135) (b2 := 1) hX hn (by simp only [Nat.reduceAdd]; rw [pm_row_off (by decide), pm_row_off (by decide), pm_row_off (by decide), pm_row_off (by decide), pm_set_hit]) (fun k i h1 h2 h3 => ?_) (fun _ _ _ => rfl)⟩
    rcases (show k = 5 ∨ k = 6 ∨ k = 7 ∨ k = 8 by omega) with rfl | rfl | rfl | rfl
    · simp only [Nat.reduceAdd]; rw [pm_row_off (by decide), pm_row_off (by decide), pm_row_off (by decide), pm_row_at]; unfold va_cpy; rw [if_pos (by omega), pm_set_off (by decide), show 0 + (i - 0) = i from by omega]
    · simp only [Nat.reduceAdd]; rw [pm_row_off (by decide), pm_row_off (by decide), pm_row_at]; unfold va_cpy; rw [if_pos (by omega), pm_row_off (by decide), pm_set_off (by decide), show 0 + (i - 0) = i from by omega]
    · simp only [Nat.reduceAdd]; rw [pm_row_off (by decide), pm_row_at]; unfold va_cpy; rw [if_pos (by omega), pm_row_off (by decide), pm_row_off (by decide), pm_set_off (by decide), show 0 + (i - 0) = i from by omega]
    · simp only [Nat.reduceAdd]; rw [pm_row_at]; unfold va_cpy; rw [if_pos (by omega), pm_row_off (by decide), pm_row_off (by decide), pm_row_off (by decide), pm_set_off (by decide), show 0 + (i - 0) = i from by omega])
set_option maxHeartbeats 4000000 in
set_option maxRecDepth 100000 in
theorem c_X8_copyFrom_1_135 {g : Nat → Int32} (μ : pm_Mm) (hX : lr_Rw μ.1 135 g) (hn : lr_n g 116 ≤ 10) : pm_CT mi_X8_copyFrom [.ref 10, .ref 144] μ (fun v μ2 => v = none ∧ μ2.2 = μ.2 ∧ (∀ i, (i < 10 ∨ 15 < i) → μ2.1 i = μ.1 i) ∧ lr_Rw μ2.1 1 g) pm_NX := by
  refine pm_CT_of (lo := [some (.ref 10), some (.ref 144)]) (by decide +kernel) rfl rfl (by intro v hv; simp at hv; rcases hv with rfl | rfl <;> rfl) (Nat.le_of_ble_eq_true rfl) rfl ?_
  refine pm_bl [(.aload_n 0, 1, 0, 0, 0), (.aload_n 1, 1, 1, 0, 0), (.getfield 9, 3, 8, 0, 0), (.putfield 9, 3, 8, 0, 0), (.aload_n 1, 1, 1, 0, 0), (.getfield 15, 3, 8, 1, 0), (.aload_n 0, 1, 0, 0, 0), (.getfield 15, 3, 8, 1, 0)] (pc1 := 16) (lo1 := [some (.ref 10), some (.ref 144)]) (st1 := [.ref 11, .ref 145]) (μ1 := pm_set μ 10 0 (μ.1 144 0)) (vc := True) rfl (by decide +kernel) rfl trivial ?_
  refine pm_callSN2 mi_X9_copyRow (ix := 31) (host := RX9) (kc2 := 0) (ks2 := 0) (As := [.ref 145, .ref 11]) (rest := []) (c_X9_copyRow (a := 145) (b := 11) (n := 10) (pm_set μ 10 0 (μ.1 144 0)) rfl rfl (by decide)) cal_X9_copyRow (by decide +kernel) (by decide +kernel) (by decide +kernel) rfl rfl (Nat.le_of_ble_eq_true rfl) (by decide) (by decide) ?_
  rintro _ μ1 ⟨rfl, e1⟩
  show pm_V _ _ _ _ 19 _ [] _
  refine pm_bl [(.aload_n 1, 1, 1, 0, 0), (.getfield 19, 3, 8, 2, 0), (.aload_n 0, 1, 0, 0, 0), (.getfield 19, 3, 8, 2, 0)] (pc1 := 27) (lo1 := [some (.ref 10), some (.ref 144)]) (st1 := [.ref 12, .ref 146]) (μ1 := μ1) (vc := True) rfl (by decide +kernel) rfl trivial ?_
  refine pm_callSN2 mi_X9_copyRow (ix := 31) (host := RX9) (kc2 := 0) (ks2 := 0) (As := [.ref 146, .ref 12]) (rest := []) (c_X9_copyRow (a := 146) (b := 12) (n := 10) μ1 rfl rfl (by decide)) cal_X9_copyRow (by decide +kernel) (by decide +kernel) (by decide +kernel) rfl rfl (Nat.le_of_ble_eq_true rfl) (by decide) (by decide) ?_
  rintro _ μ2 ⟨rfl, e2⟩
  show pm_V _ _ _ _ 30 _ [] _
  refine pm_bl [(.aload_n 1, 1, 1, 0, 0), (.getfield 22, 3, 8, 3, 0), (.aload_n 0, 1, 0, 0, 0), (.getfield 22, 3, 8, 3, 0)] (pc1 := 38) (lo1 := [some (.ref 10), some (.ref 144)]) (st1 := [.ref 13, .ref 147]) (μ1 := μ2) (vc := True) rfl (by decide +kernel) rfl trivial ?_
  refine pm_callSN2 mi_X9_copyRow (ix := 31) (host := RX9) (kc2 := 0) (ks2 := 0) (As := [.ref 147, .ref 13]) (rest := []) (c_X9_copyRow (a := 147) (b := 13) (n := 10) μ2 rfl rfl (by decide)) cal_X9_copyRow (by decide +kernel) (by decide +kernel) (by decide +kernel) rfl rfl (Nat.le_of_ble_eq_true rfl) (by decide) (by decide) ?_
  rintro _ μ3 ⟨rfl, e3⟩
  show pm_V _ _ _ _ 41 _ [] _
  refine pm_bl [(.aload_n 1, 1, 1, 0, 0), (.getfield 25, 3, 8, 4, 0), (.aload_n 0, 1, 0, 0, 0), (.getfield 25, 3, 8, 4, 0)] (pc1 := 49) (lo1 := [some (.ref 10), some (.ref 144)]) (st1 := [.ref 14, .ref 148]) (μ1 := μ3) (vc := True) rfl (by decide +kernel) rfl trivial ?_
  refine pm_callSN2 mi_X9_copyRow (ix := 31) (host := RX9) (kc2 := 0) (ks2 := 0) (As := [.ref 148, .ref 14]) (rest := []) (c_X9_copyRow (a := 148) (b := 14) (n := 10) μ3 rfl rfl (by decide)) cal_X9_copyRow (by decide +kernel) (by decide +kernel) (by decide +kernel) rfl rfl (Nat.le_of_ble_eq_true rfl) (by decide) (by decide) ?_
  rintro _ μ4 ⟨rfl, e4⟩
  show pm_V _ _ _ _ 52 _ [] _
  refine pm_bl [(.aload_n 1, 1, 1, 0, 0), (.getfield 28, 3, 8, 5, 0), (.aload_n 0, 1, 0, 0, 0), (.getfield 28, 3, 8, 5, 0)] (pc1 := 60) (lo1 := [some (.ref 10), some (.ref 144)]) (st1 := [.ref 15, .ref 149]) (μ1 := μ4) (vc := True) rfl (by decide +kernel) rfl trivial ?_
  refine pm_callSN2 mi_X9_copyRow (ix := 31) (host := RX9) (kc2 := 0) (ks2 := 0) (As := [.ref 149, .ref 15]) (rest := []) (c_X9_copyRow (a := 149) (b := 15) (n := 10) μ4 rfl rfl (by decide)) cal_X9_copyRow (by decide +kernel) (by decide +kernel) (by decide +kernel) rfl rfl (Nat.le_of_ble_eq_true rfl) (by decide) (by decide) ?_
  rintro _ μ5 ⟨rfl, e5⟩
  show pm_V _ _ _ _ 63 _ [] _
  exact pm_vret rfl (by decide) (by decide) (by decide +kernel) (by
    subst e1; subst e2; subst e3; subst e4; subst e5
    refine ⟨rfl, rfl, fun i hi => by rw [pm_row_off (by omega), pm_row_off (by omega), pm_row_off (by omega), pm_row_off (by omega), pm_row_off (by omega), pm_set_off (by omega)], lr_Rw.mv (b := 135) (b2 := 1) hX hn (by simp only [Nat.reduceAdd]; rw [pm_row_off (by decide), pm_row_off (by decide), pm_row_off (by decide), pm_row_off (by decide), pm_row_off (by decide), pm_set_hit]) (fun k i h1 h2 h3 => ?_) (fun _ _ _ => rfl)⟩
    rcases (show k = 10 ∨ k = 11 ∨ k = 12 ∨ k = 13 ∨ k = 14 by omega) with rfl | rfl | rfl | rfl | rfl
    · simp only [Nat.reduceAdd]; rw [pm_row_off (by decide), pm_row_off (by decide), pm_row_off (by decide), pm_row_off (by decide), pm_row_at]; unfold va_cpy; rw [if_pos (by omega), pm_set_off (by decide), show 0 + (i - 0) = i from by omega]
    · simp only [Nat.reduceAdd]; rw [pm_row_off (by decide), pm_row_off (by decide), pm_row_off (by decide), pm_row_at]; unfold va_cpy; rw [if_pos (by omega), pm_row_off (by decide), pm_set_off (by decide), show 0 + (i - 0) = i from by omega]
    · simp only [Nat.reduceAdd]; rw [pm_row_off (by decide), pm_row_off (by decide), pm_row_at]; unfold va_cpy; rw [if_pos (by omega), pm_row_off (by decide), pm_row_off (by decide), pm_set_off (by decide), show 0 + (i - 0) = i from by omega]
    · simp only [Nat.reduceAdd]; rw [pm_row_off (by decide), pm_row_at]; unfold va_cpy; rw [if_pos (by omega), pm_row_off (by decide), pm_row_off (by decide), pm_row_off (by decide), pm_set_off (by decide), show 0 + (i - 0) = i from by omega]
    · simp only [Nat.reduceAdd]; rw [pm_row_at]; unfold va_cpy; rw [if_pos (by omega), pm_row_off (by decide), pm_row_off (by decide), pm_row_off (by decide), pm_row_off (by decide), pm_set_off (by decide), show 0 + (i - 0) = i from by omega])
set_option maxHeartbeats 4000000 in
set_option maxRecDepth 100000 in
theorem c_X7_copyFrom_1_135 {g : Nat → Int32} (μ : pm_Mm) (hX : lr_Rr μ.1 135 g) (hn : lr_n g 167 ≤ 12) : pm_CT mi_X7_copyFrom [.ref 16, .ref 150] μ (fun v μ2 => v = none ∧ μ2.2 = μ.2 ∧ (∀ i, (i < 16 ∨ 21 < i) → μ2.1 i = μ.1 i) ∧ lr_Rr μ2.1 1 g) pm_NX := by
  refine pm_CT_of (lo := [some (.ref 16), some (.ref 150)]) (by decide +kernel) rfl rfl (by intro v hv; simp at hv; rcases hv with rfl | rfl <;> rfl) (Nat.le_of_ble_eq_true rfl) rfl ?_
  refine pm_bl [(.aload_n 0, 1, 0, 0, 0), (.aload_n 1, 1, 1, 0, 0), (.getfield 9, 3, 7, 0, 0), (.putfield 9, 3, 7, 0, 0), (.aload_n 1, 1, 1, 0, 0), (.getfield 15, 3, 7, 1, 0), (.aload_n 0, 1, 0, 0, 0), (.getfield 15, 3, 7, 1, 0)] (pc1 := 16) (lo1 := [some (.ref 16), some (.ref 150)]) (st1 := [.ref 17, .ref 151]) (μ1 := pm_set μ 16 0 (μ.1 150 0)) (vc := True) rfl (by decide +kernel) rfl trivial ?_
  refine pm_callSN2 mi_X9_copyRow (ix := 31) (host := RX9) (kc2 := 0) (ks2 := 0) (As := [.ref 151, .ref 17]) (rest := []) (c_X9_copyRow (a := 151) (b := 17) (n := 12) (pm_set μ 16 0 (μ.1 150 0)) rfl rfl (by decide)) cal_X9_copyRow (by decide +kernel) (by decide +kernel) (by decide +kernel) rfl rfl (Nat.le_of_ble_eq_true rfl) (by decide) (by decide) ?_
  rintro _ μ1 ⟨rfl, e1⟩
  show pm_V _ _ _ _ 19 _ [] _
  refine pm_bl [(.aload_n 1, 1, 1, 0, 0), (.getfield 19, 3, 7, 2, 0), (.aload_n 0, 1, 0, 0, 0), (.getfield 19, 3, 7, 2, 0)] (pc1 := 27) (lo1 := [some (.ref 16), some (.ref 150)]) (st1 := [.ref 18, .ref 152]) (μ1 := μ1) (vc := True) rfl (by decide +kernel) rfl trivial ?_
  refine pm_callSN2 mi_X9_copyRow (ix := 31) (host := RX9) (kc2 := 0) (ks2 := 0) (As := [.ref 152, .ref 18]) (rest := []) (c_X9_copyRow (a := 152) (b := 18) (n := 12) μ1 rfl rfl (by decide)) cal_X9_copyRow (by decide +kernel) (by decide +kernel) (by decide +kernel) rfl rfl (Nat.le_of_ble_eq_true rfl) (by decide) (by decide) ?_
  rintro _ μ2 ⟨rfl, e2⟩
  show pm_V _ _ _ _ 30 _ [] _
  refine pm_bl [(.aload_n 1, 1, 1, 0, 0), (.getfield 22, 3, 7, 3, 0), (.aload_n 0, 1, 0, 0, 0), (.getfield 22, 3, 7, 3, 0)] (pc1 := 38) (lo1 := [some (.ref 16), some (.ref 150)]) (st1 := [.ref 19, .ref 153]) (μ1 := μ2) (vc := True) rfl (by decide +kernel) rfl trivial ?_
  refine pm_callSN2 mi_X9_copyRow (ix := 31) (host := RX9) (kc2 := 0) (ks2 := 0) (As := [.ref 153, .ref 19]) (rest := []) (c_X9_copyRow (a := 153) (b := 19) (n := 12) μ2 rfl rfl (by decide)) cal_X9_copyRow (by decide +kernel) (by decide +kernel) (by decide +kernel) rfl rfl (Nat.le_of_ble_eq_true rfl) (by decide) (by decide) ?_
  rintro _ μ3 ⟨rfl, e3⟩
  show pm_V _ _ _ _ 41 _ [] _
  refine pm_bl [(.aload_n 1, 1, 1, 0, 0), (.getfield 25, 3, 7, 4, 0), (.aload_n 0, 1, 0, 0, 0), (.getfield 25, 3, 7, 4, 0)] (pc1 := 49) (lo1 := [some (.ref 16), some (.ref 150)]) (st1 := [.ref 20, .ref 154]) (μ1 := μ3) (vc := True) rfl (by decide +kernel) rfl trivial ?_
  refine pm_callSN2 mi_X9_copyRow (ix := 31) (host := RX9) (kc2 := 0) (ks2 := 0) (As := [.ref 154, .ref 20]) (rest := []) (c_X9_copyRow (a := 154) (b := 20) (n := 12) μ3 rfl rfl (by decide)) cal_X9_copyRow (by decide +kernel) (by decide +kernel) (by decide +kernel) rfl rfl (Nat.le_of_ble_eq_true rfl) (by decide) (by decide) ?_
  rintro _ μ4 ⟨rfl, e4⟩
  show pm_V _ _ _ _ 52 _ [] _
  refine pm_bl [(.aload_n 1, 1, 1, 0, 0), (.getfield 28, 3, 7, 5, 0), (.aload_n 0, 1, 0, 0, 0), (.getfield 28, 3, 7, 5, 0)] (pc1 := 60) (lo1 := [some (.ref 16), some (.ref 150)]) (st1 := [.ref 21, .ref 155]) (μ1 := μ4) (vc := True) rfl (by decide +kernel) rfl trivial ?_
  refine pm_callSN2 mi_X9_copyRow (ix := 31) (host := RX9) (kc2 := 0) (ks2 := 0) (As := [.ref 155, .ref 21]) (rest := []) (c_X9_copyRow (a := 155) (b := 21) (n := 12) μ4 rfl rfl (by decide)) cal_X9_copyRow (by decide +kernel) (by decide +kernel) (by decide +kernel) rfl rfl (Nat.le_of_ble_eq_true rfl) (by decide) (by decide) ?_
  rintro _ μ5 ⟨rfl, e5⟩
  show pm_V _ _ _ _ 63 _ [] _
  exact pm_vret rfl (by decide) (by decide) (by decide +kernel) (by
    subst e1; subst e2; subst e3; subst e4; subst e5
    refine ⟨rfl, rfl, fun i hi => by rw [pm_row_off (by omega), pm_row_off (by omega), pm_row_off (by omega), pm_row_off (by omega), pm_row_off (by omega), pm_set_off (by omega)], lr_Rr.mv (b := 135) (b2 := 1) hX hn (by simp only [Nat.reduceAdd]; rw [pm_row_off (by decide), pm_row_off (by decide), pm_row_off (by decide), pm_row_off (by decide), pm_row_off (by decide), pm_set_hit]) (fun k i h1 h2 h3 => ?_) (fun _ _ _ => rfl)⟩
    rcases (show k = 16 ∨ k = 17 ∨ k = 18 ∨ k = 19 ∨ k = 20 by omega) with rfl | rfl | rfl | rfl | rfl
    · simp only [Nat.reduceAdd]; rw [pm_row_off (by decide), pm_row_off (by decide), pm_row_off (by decide), pm_row_off (by decide), pm_row_at]; unfold va_cpy; rw [if_pos (by omega), pm_set_off (by decide), show 0 + (i - 0) = i from by omega]
    · simp only [Nat.reduceAdd]; rw [pm_row_off (by decide), pm_row_off (by decide), pm_row_off (by decide), pm_row_at]; unfold va_cpy; rw [if_pos (by omega), pm_row_off (by decide), pm_set_off (by decide), show 0 + (i - 0) = i from by omega]
    · simp only [Nat.reduceAdd]; rw [pm_row_off (by decide), pm_row_off (by decide), pm_row_at]; unfold va_cpy; rw [if_pos (by omega), pm_row_off (by decide), pm_row_off (by decide), pm_set_off (by decide), show 0 + (i - 0) = i from by omega]
    · simp only [Nat.reduceAdd]; rw [pm_row_off (by decide), pm_row_at]; unfold va_cpy; rw [if_pos (by omega), pm_row_off (by decide), pm_row_off (by decide), pm_row_off (by decide), pm_set_off (by decide), show 0 + (i - 0) = i from by omega]
    · simp only [Nat.reduceAdd]; rw [pm_row_at]; unfold va_cpy; rw [if_pos (by omega), pm_row_off (by decide), pm_row_off (by decide), pm_row_off (by decide), pm_row_off (by decide), pm_set_off (by decide), show 0 + (i - 0) = i from by omega])
set_option maxHeartbeats 4000000 in
set_option maxRecDepth 100000 in
theorem c_X0_copyFrom_1_135 {g : Nat → Int32} (μ : pm_Mm) (hX : lr_Ra μ.1 135 g) (hn : lr_n g 228 ≤ 20) : pm_CT mi_X0_copyFrom [.ref 22, .ref 156] μ (fun v μ2 => v = none ∧ μ2.2 = μ.2 ∧ (∀ i, (i < 22 ∨ 25 < i) → μ2.1 i = μ.1 i) ∧ lr_Ra μ2.1 1 g) pm_NX := by
  refine pm_CT_of (lo := [some (.ref 22), some (.ref 156)]) (by decide +kernel) rfl rfl (by intro v hv; simp at hv; rcases hv with rfl | rfl <;> rfl) (Nat.le_of_ble_eq_true rfl) rfl ?_
  refine pm_bl [(.aload_n 0, 1, 0, 0, 0), (.aload_n 1, 1, 1, 0, 0), (.getfield 9, 3, 0, 0, 0), (.putfield 9, 3, 0, 0, 0), (.aload_n 1, 1, 1, 0, 0), (.getfield 15, 3, 0, 1, 0), (.aload_n 0, 1, 0, 0, 0), (.getfield 15, 3, 0, 1, 0)] (pc1 := 16) (lo1 := [some (.ref 22), some (.ref 156)]) (st1 := [.ref 23, .ref 157]) (μ1 := pm_set μ 22 0 (μ.1 156 0)) (vc := True) rfl (by decide +kernel) rfl trivial ?_
  refine pm_callSN2 mi_X9_copyRow (ix := 25) (host := RX9) (kc2 := 0) (ks2 := 0) (As := [.ref 157, .ref 23]) (rest := []) (c_X9_copyRow (a := 157) (b := 23) (n := 20) (pm_set μ 22 0 (μ.1 156 0)) rfl rfl (by decide)) cal_X9_copyRow (by decide +kernel) (by decide +kernel) (by decide +kernel) rfl rfl (Nat.le_of_ble_eq_true rfl) (by decide) (by decide) ?_
  rintro _ μ1 ⟨rfl, e1⟩
  show pm_V _ _ _ _ 19 _ [] _
  refine pm_bl [(.aload_n 1, 1, 1, 0, 0), (.getfield 19, 3, 0, 2, 0), (.aload_n 0, 1, 0, 0, 0), (.getfield 19, 3, 0, 2, 0)] (pc1 := 27) (lo1 := [some (.ref 22), some (.ref 156)]) (st1 := [.ref 24, .ref 158]) (μ1 := μ1) (vc := True) rfl (by decide +kernel) rfl trivial ?_
  refine pm_callSN2 mi_X9_copyRow (ix := 25) (host := RX9) (kc2 := 0) (ks2 := 0) (As := [.ref 158, .ref 24]) (rest := []) (c_X9_copyRow (a := 158) (b := 24) (n := 20) μ1 rfl rfl (by decide)) cal_X9_copyRow (by decide +kernel) (by decide +kernel) (by decide +kernel) rfl rfl (Nat.le_of_ble_eq_true rfl) (by decide) (by decide) ?_
  rintro _ μ2 ⟨rfl, e2⟩
  show pm_V _ _ _ _ 30 _ [] _
  refine pm_bl [(.aload_n 1, 1, 1, 0, 0), (.getfield 22, 3, 0, 3, 0), (.aload_n 0, 1, 0, 0, 0), (.getfield 22, 3, 0, 3, 0)] (pc1 := 38) (lo1 := [some (.ref 22), some (.ref 156)]) (st1 := [.ref 25, .ref 159]) (μ1 := μ2) (vc := True) rfl (by decide +kernel) rfl trivial ?_
  refine pm_callSN2 mi_X9_copyRow (ix := 25) (host := RX9) (kc2 := 0) (ks2 := 0) (As := [.ref 159, .ref 25]) (rest := []) (c_X9_copyRow (a := 159) (b := 25) (n := 20) μ2 rfl rfl (by decide)) cal_X9_copyRow (by decide +kernel) (by decide +kernel) (by decide +kernel) rfl rfl (Nat.le_of_ble_eq_true rfl) (by decide) (by decide) ?_
  rintro _ μ3 ⟨rfl, e3⟩
  show pm_V _ _ _ _ 41 _ [] _
  exact pm_vret rfl (by decide) (by decide) (by decide +kernel) (by
    subst e1; subst e2; subst e3
    refine ⟨rfl, rfl, fun i hi => by rw [pm_row_off (by omega), pm_row_off (by omega), pm_row_off (by omega), pm_set_off (by omega)], lr_Ra.mv (b := 135) (b2 := 1) hX hn (by simp only [Nat.reduceAdd]; rw [pm_row_off (by decide), pm_row_off (by decide), pm_row_off (by decide), pm_set_hit]) (fun k i h1 h2 h3 => ?_) (fun _ _ _ => rfl)⟩
    rcases (show k = 22 ∨ k = 23 ∨ k = 24 by omega) with rfl | rfl | rfl
    · simp only [Nat.reduceAdd]; rw [pm_row_off (by decide), pm_row_off (by decide), pm_row_at]; unfold va_cpy; rw [if_pos (by omega), pm_set_off (by decide), show 0 + (i - 0) = i from by omega]
    · simp only [Nat.reduceAdd]; rw [pm_row_off (by decide), pm_row_at]; unfold va_cpy; rw [if_pos (by omega), pm_row_off (by decide), pm_set_off (by decide), show 0 + (i - 0) = i from by omega]
    · simp only [Nat.reduceAdd]; rw [pm_row_at]; unfold va_cpy; rw [if_pos (by omega), pm_row_off (by decide), pm_row_off (by decide), pm_set_off (by decide), show 0 + (i - 0) = i from by omega])
set_option maxHeartbeats 4000000 in
set_option maxRecDepth 100000 in
theorem c_X4_copyFrom_1_135 {g : Nat → Int32} (μ : pm_Mm) (hX : lr_Rl μ.1 135 g) (hn : lr_n g 289 ≤ 30) : pm_CT mi_X4_copyFrom [.ref 26, .ref 160] μ (fun v μ2 => v = none ∧ μ2.2 = μ.2 ∧ (∀ i, (i < 26 ∨ 38 < i) → μ2.1 i = μ.1 i) ∧ lr_Rl μ2.1 1 g) pm_NX := by
  refine pm_CT_of (lo := [some (.ref 26), some (.ref 160)]) (by decide +kernel) rfl rfl (by intro v hv; simp at hv; rcases hv with rfl | rfl <;> rfl) (Nat.le_of_ble_eq_true rfl) rfl ?_
  refine pm_bl [(.aload_n 0, 1, 0, 0, 0), (.aload_n 1, 1, 1, 0, 0), (.getfield 9, 3, 4, 0, 0), (.putfield 9, 3, 4, 0, 0), (.aload_n 0, 1, 0, 0, 0), (.aload_n 1, 1, 1, 0, 0), (.getfield 15, 3, 4, 1, 0), (.putfield 15, 3, 4, 1, 0), (.aload_n 1, 1, 1, 0, 0), (.getfield 18, 3, 4, 2, 0), (.aload_n 0, 1, 0, 0, 0), (.getfield 18, 3, 4, 2, 0)] (pc1 := 24) (lo1 := [some (.ref 26), some (.ref 160)]) (st1 := [.ref 27, .ref 161]) (μ1 := pm_set (pm_set μ 26 0 (μ.1 160 0)) 26 1 ((pm_set μ 26 0 (μ.1 160 0)).1 160 1)) (vc := True) rfl (by decide +kernel) rfl trivial ?_
  rw [show (pm_set μ 26 0 (μ.1 160 0)).1 160 1 = μ.1 160 1 from by simp [pm_set]]
  refine pm_callSN2 mi_X9_copyRow (ix := 55) (host := RX9) (kc2 := 0) (ks2 := 0) (As := [.ref 161, .ref 27]) (rest := []) (c_X9_copyRow (a := 161) (b := 27) (n := 30) (pm_set (pm_set μ 26 0 (μ.1 160 0)) 26 1 (μ.1 160 1)) rfl rfl (by decide)) cal_X9_copyRow (by decide +kernel) (by decide +kernel) (by decide +kernel) rfl rfl (Nat.le_of_ble_eq_true rfl) (by decide) (by decide) ?_
  rintro _ μ1 ⟨rfl, e1⟩
  show pm_V _ _ _ _ 27 _ [] _
  refine pm_bl [(.aload_n 1, 1, 1, 0, 0), (.getfield 22, 3, 4, 3, 0), (.aload_n 0, 1, 0, 0, 0), (.getfield 22, 3, 4, 3, 0)] (pc1 := 35) (lo1 := [some (.ref 26), some (.ref 160)]) (st1 := [.ref 28, .ref 162]) (μ1 := μ1) (vc := True) rfl (by decide +kernel) rfl trivial ?_
  refine pm_callSN2 mi_X9_copyRow (ix := 55) (host := RX9) (kc2 := 0) (ks2 := 0) (As := [.ref 162, .ref 28]) (rest := []) (c_X9_copyRow (a := 162) (b := 28) (n := 30) μ1 rfl rfl (by decide)) cal_X9_copyRow (by decide +kernel) (by decide +kernel) (by decide +kernel) rfl rfl (Nat.le_of_ble_eq_true rfl) (by decide) (by decide) ?_
  rintro _ μ2 ⟨rfl, e2⟩
  show pm_V _ _ _ _ 38 _ [] _
  refine pm_bl [(.aload_n 1, 1, 1, 0, 0), (.getfield 25, 3, 4, 4, 0), (.aload_n 0, 1, 0, 0, 0), (.getfield 25, 3, 4, 4, 0)] (pc1 := 46) (lo1 := [some (.ref 26), some (.ref 160)]) (st1 := [.ref 29, .ref 163]) (μ1 := μ2) (vc := True) rfl (by decide +kernel) rfl trivial ?_
  refine pm_callSN2 mi_X9_copyRow (ix := 55) (host := RX9) (kc2 := 0) (ks2 := 0) (As := [.ref 163, .ref 29]) (rest := []) (c_X9_copyRow (a := 163) (b := 29) (n := 30) μ2 rfl rfl (by decide)) cal_X9_copyRow (by decide +kernel) (by decide +kernel) (by decide +kernel) rfl rfl (Nat.le_of_ble_eq_true rfl) (by decide) (by decide) ?_
  rintro _ μ3 ⟨rfl, e3⟩
  show pm_V _ _ _ _ 49 _ [] _
  refine pm_bl [(.aload_n 1, 1, 1, 0, 0), (.getfield 28, 3, 4, 5, 0), (.aload_n 0, 1, 0, 0, 0), (.getfield 28, 3, 4, 5, 0)] (pc1 := 57) (lo1 := [some (.ref 26), some (.ref 160)]) (st1 := [.ref 30, .ref 164]) (μ1 := μ3) (vc := True) rfl (by decide +kernel) rfl trivial ?_
  refine pm_callSN2 mi_X9_copyRow (ix := 55) (host := RX9) (kc2 := 0) (ks2 := 0) (As := [.ref 164, .ref 30]) (rest := []) (c_X9_copyRow (a := 164) (b := 30) (n := 30) μ3 rfl rfl (by decide)) cal_X9_copyRow (by decide +kernel) (by decide +kernel) (by decide +kernel) rfl rfl (Nat.le_of_ble_eq_true rfl) (by decide) (by decide) ?_
  rintro _ μ4 ⟨rfl, e4⟩
  show pm_V _ _ _ _ 60 _ [] _
  refine pm_bl [(.aload_n 1, 1, 1, 0, 0), (.getfield 31, 3, 4, 6, 0), (.aload_n 0, 1, 0, 0, 0), (.getfield 31, 3, 4, 6, 0)] (pc1 := 68) (lo1 := [some (.ref 26), some (.ref 160)]) (st1 := [.ref 31, .ref 165]) (μ1 := μ4) (vc := True) rfl (by decide +kernel) rfl trivial ?_
  refine pm_callSN2 mi_X9_copyRow (ix := 55) (host := RX9) (kc2 := 0) (ks2 := 0) (As := [.ref 165, .ref 31]) (rest := []) (c_X9_copyRow (a := 165) (b := 31) (n := 30) μ4 rfl rfl (by decide)) cal_X9_copyRow (by decide +kernel) (by decide +kernel) (by decide +kernel) rfl rfl (Nat.le_of_ble_eq_true rfl) (by decide) (by decide) ?_
  rintro _ μ5 ⟨rfl, e5⟩
  show pm_V _ _ _ _ 71 _ [] _
  refine pm_bl [(.aload_n 1, 1, 1, 0, 0), (.getfield 34, 3, 4, 7, 0), (.aload_n 0, 1, 0, 0, 0), (.getfield 34, 3, 4, 7, 0)] (pc1 := 79) (lo1 := [some (.ref 26), some (.ref 160)]) (st1 := [.ref 32, .ref 166]) (μ1 := μ5) (vc := True) rfl (by decide +kernel) rfl trivial ?_
  refine pm_callSN2 mi_X9_copyRow (ix := 55) (host := RX9) (kc2 := 0) (ks2 := 0) (As := [.ref 166, .ref 32]) (rest := []) (c_X9_copyRow (a := 166) (b := 32) (n := 30) μ5 rfl rfl (by decide)) cal_X9_copyRow (by decide +kernel) (by decide +kernel) (by decide +kernel) rfl rfl (Nat.le_of_ble_eq_true rfl) (by decide) (by decide) ?_
  rintro _ μ6 ⟨rfl, e6⟩
  show pm_V _ _ _ _ 82 _ [] _
  refine pm_bl [(.aload_n 1, 1, 1, 0, 0), (.getfield 37, 3, 4, 8, 0), (.aload_n 0, 1, 0, 0, 0), (.getfield 37, 3, 4, 8, 0)] (pc1 := 90) (lo1 := [some (.ref 26), some (.ref 160)]) (st1 := [.ref 33, .ref 167]) (μ1 := μ6) (vc := True) rfl (by decide +kernel) rfl trivial ?_
  refine pm_callSN2 mi_X9_copyRow (ix := 55) (host := RX9) (kc2 := 0) (ks2 := 0) (As := [.ref 167, .ref 33]) (rest := []) (c_X9_copyRow (a := 167) (b := 33) (n := 30) μ6 rfl rfl (by decide)) cal_X9_copyRow (by decide +kernel) (by decide +kernel) (by decide +kernel) rfl rfl (Nat.le_of_ble_eq_true rfl) (by decide) (by decide) ?_
  rintro _ μ7 ⟨rfl, e7⟩
  show pm_V _ _ _ _ 93 _ [] _
  refine pm_bl [(.aload_n 1, 1, 1, 0, 0), (.getfield 40, 3, 4, 9, 0), (.aload_n 0, 1, 0, 0, 0), (.getfield 40, 3, 4, 9, 0)] (pc1 := 101) (lo1 := [some (.ref 26), some (.ref 160)]) (st1 := [.ref 34, .ref 168]) (μ1 := μ7) (vc := True) rfl (by decide +kernel) rfl trivial ?_
  refine pm_callSN2 mi_X9_copyRow (ix := 55) (host := RX9) (kc2 := 0) (ks2 := 0) (As := [.ref 168, .ref 34]) (rest := []) (c_X9_copyRow (a := 168) (b := 34) (n := 30) μ7 rfl rfl (by decide)) cal_X9_copyRow (by decide +kernel) (by decide +kernel) (by decide +kernel) rfl rfl (Nat.le_of_ble_eq_true rfl) (by decide) (by decide) ?_
  rintro _ μ8 ⟨rfl, e8⟩
  show pm_V _ _ _ _ 104 _ [] _
  refine pm_bl [(.aload_n 1, 1, 1, 0, 0), (.getfield 43, 3, 4, 10, 0), (.aload_n 0, 1, 0, 0, 0), (.getfield 43, 3, 4, 10, 0)] (pc1 := 112) (lo1 := [some (.ref 26), some (.ref 160)]) (st1 := [.ref 35, .ref 169]) (μ1 := μ8) (vc := True) rfl (by decide +kernel) rfl trivial ?_
  refine pm_callSN2 mi_X9_copyRow (ix := 55) (host := RX9) (kc2 := 0) (ks2 := 0) (As := [.ref 169, .ref 35]) (rest := []) (c_X9_copyRow (a := 169) (b := 35) (n := 30) μ8 rfl rfl (by decide)) cal_X9_copyRow (by decide +kernel) (by decide +kernel) (by decide +kernel) rfl rfl (Nat.le_of_ble_eq_true rfl) (by decide) (by decide) ?_
  rintro _ μ9 ⟨rfl, e9⟩
  show pm_V _ _ _ _ 115 _ [] _
  refine pm_bl [(.aload_n 1, 1, 1, 0, 0), (.getfield 46, 3, 4, 11, 0), (.aload_n 0, 1, 0, 0, 0), (.getfield 46, 3, 4, 11, 0)] (pc1 := 123) (lo1 := [some (.ref 26), some (.ref 160)]) (st1 := [.ref 36, .ref 170]) (μ1 := μ9) (vc := True) rfl (by decide +kernel) rfl trivial ?_
  refine pm_callSN2 mi_X9_copyRow (ix := 55) (host := RX9) (kc2 := 0) (ks2 := 0) (As := [.ref 170, .ref 36]) (rest := []) (c_X9_copyRow (a := 170) (b := 36) (n := 30) μ9 rfl rfl (by decide)) cal_X9_copyRow (by decide +kernel) (by decide +kernel) (by decide +kernel) rfl rfl (Nat.le_of_ble_eq_true rfl) (by decide) (by decide) ?_
  rintro _ μ10 ⟨rfl, e10⟩
  show pm_V _ _ _ _ 126 _ [] _
  refine pm_bl [(.aload_n 1, 1, 1, 0, 0), (.getfield 49, 3, 4, 12, 0), (.aload_n 0, 1, 0, 0, 0), (.getfield 49, 3, 4, 12, 0)] (pc1 := 134) (lo1 := [some (.ref 26), some (.ref 160)]) (st1 := [.ref 37, .ref 171]) (μ1 := μ10) (vc := True) rfl (by decide +kernel) rfl trivial ?_
  refine pm_callSN2 mi_X9_copyRow (ix := 55) (host := RX9) (kc2 := 0) (ks2 := 0) (As := [.ref 171, .ref 37]) (rest := []) (c_X9_copyRow (a := 171) (b := 37) (n := 30) μ10 rfl rfl (by decide)) cal_X9_copyRow (by decide +kernel) (by decide +kernel) (by decide +kernel) rfl rfl (Nat.le_of_ble_eq_true rfl) (by decide) (by decide) ?_
  rintro _ μ11 ⟨rfl, e11⟩
  show pm_V _ _ _ _ 137 _ [] _
  refine pm_bl [(.aload_n 1, 1, 1, 0, 0), (.getfield 52, 3, 4, 13, 0), (.aload_n 0, 1, 0, 0, 0), (.getfield 52, 3, 4, 13, 0)] (pc1 := 145) (lo1 := [some (.ref 26), some (.ref 160)]) (st1 := [.ref 38, .ref 172]) (μ1 := μ11) (vc := True) rfl (by decide +kernel) rfl trivial ?_
  refine pm_callSN2 mi_X9_copyRow (ix := 55) (host := RX9) (kc2 := 0) (ks2 := 0) (As := [.ref 172, .ref 38]) (rest := []) (c_X9_copyRow (a := 172) (b := 38) (n := 30) μ11 rfl rfl (by decide)) cal_X9_copyRow (by decide +kernel) (by decide +kernel) (by decide +kernel) rfl rfl (Nat.le_of_ble_eq_true rfl) (by decide) (by decide) ?_
  rintro _ μ12 ⟨rfl, e12⟩
  show pm_V _ _ _ _ 148 _ [] _
  exact pm_vret rfl (by decide) (by decide) (by decide +kernel) (by
    subst e1; subst e2; subst e3; subst e4; subst e5; subst e6; subst e7; subst e8; subst e9; subst e10; subst e11; subst e12
    refine ⟨rfl, rfl, fun i hi => by rw [pm_row_off (by omega), pm_row_off (by omega), pm_row_off (by omega), pm_row_off (by omega), pm_row_off (by omega), pm_row_off (by omega), pm_row_off (by omega), pm_row_off (by omega), pm_row_off (by omega), pm_row_off (by omega), pm_row_off (by omega), pm_row_off (by omega), pm_set_off (by omega), pm_set_off (by omega)], lr_Rl.mv (b := 135) (b2 := 1) hX hn (by simp only [Nat.reduceAdd]; rw [pm_row_off (by decide), pm_row_off (by decide), pm_row_off (by decide), pm_row_off (by decide), pm_row_off (by decide), pm_row_off (by decide), pm_row_off (by decide), pm_row_off (by decide), pm_row_off (by decide), pm_row_off (by decide), pm_row_off (by decide), pm_row_off (by decide), pm_set_miss (Or.inr (by decide)), pm_set_hit]) (by simp only [Nat.reduceAdd]; rw [pm_row_off (by decide), pm_row_off (by decide), pm_row_off (by decide), pm_row_off (by decide), pm_row_off (by decide), pm_row_off (by decide), pm_row_off (by decide), pm_row_off (by decide), pm_row_off (by decide), pm_row_off (by decide), pm_row_off (by decide), pm_row_off (by decide), pm_set_hit]) (fun k i h1 h2 h3 => ?_) (fun _ _ _ => rfl) rfl⟩
    rcases (show k = 26 ∨ k = 27 ∨ k = 28 ∨ k = 29 ∨ k = 30 ∨ k = 31 ∨ k = 32 ∨ k = 33 ∨ k = 34 ∨ k = 35 ∨ k = 36 ∨ k = 37 by omega) with rfl | rfl | rfl | rfl | rfl | rfl | rfl | rfl | rfl | rfl | rfl | rfl
    · simp only [Nat.reduceAdd]; rw [pm_row_off (by decide), pm_row_off (by decide), pm_row_off (by decide), pm_row_off (by decide), pm_row_off (by decide), pm_row_off (by decide), pm_row_off (by decide), pm_row_off (by decide), pm_row_off (by decide), pm_row_off (by decide), pm_row_off (by decide), pm_row_at]; unfold va_cpy; rw [if_pos (by omega), pm_set_off (by decide), pm_set_off (by decide), show 0 + (i - 0) = i from by omega]
    · simp only [Nat.reduceAdd]; rw [pm_row_off (by decide), pm_row_off (by decide), pm_row_off (by decide), pm_row_off (by decide), pm_row_off (by decide), pm_row_off (by decide), pm_row_off (by decide), pm_row_off (by decide), pm_row_off (by decide), pm_row_off (by decide), pm_row_at]; unfold va_cpy; rw [if_pos (by omega), pm_row_off (by decide), pm_set_off (by decide), pm_set_off (by decide), show 0 + (i - 0) = i from by omega]
    · simp only [Nat.reduceAdd]; rw [pm_row_off (by decide), pm_row_off (by decide), pm_row_off (by decide), pm_row_off (by decide), pm_row_off (by decide), pm_row_off (by decide), pm_row_off (by decide), pm_row_off (by decide), pm_row_off (by decide), pm_row_at]; unfold va_cpy; rw [if_pos (by omega), pm_row_off (by decide), pm_row_off (by decide), pm_set_off (by decide), pm_set_off (by decide), show 0 + (i - 0) = i from by omega]
    · simp only [Nat.reduceAdd]; rw [pm_row_off (by decide), pm_row_off (by decide), pm_row_off (by decide), pm_row_off (by decide), pm_row_off (by decide), pm_row_off (by decide), pm_row_off (by decide), pm_row_off (by decide), pm_row_at]; unfold va_cpy; rw [if_pos (by omega), pm_row_off (by decide), pm_row_off (by decide), pm_row_off (by decide), pm_set_off (by decide), pm_set_off (by decide), show 0 + (i - 0) = i from by omega]
    · simp only [Nat.reduceAdd]; rw [pm_row_off (by decide), pm_row_off (by decide), pm_row_off (by decide), pm_row_off (by decide), pm_row_off (by decide), pm_row_off (by decide), pm_row_off (by decide), pm_row_at]; unfold va_cpy; rw [if_pos (by omega), pm_row_off (by decide), pm_row_off (by decide), pm_row_off (by decide), pm_row_off (by decide), pm_set_off (by decide), pm_set_off (by decide), show 0 + (i - 0) = i from by omega]
    · simp only [Nat.reduceAdd]; rw [pm_row_off (by decide), pm_row_off (by decide), pm_row_off (by decide), pm_row_off (by decide), pm_row_off (by decide), pm_row_off (by decide), pm_row_at]; unfold va_cpy; rw [if_pos (by omega), pm_row_off (by decide), pm_row_off (by decide), pm_row_off (by decide), pm_row_off (by decide), pm_row_off (by decide), pm_set_off (by decide), pm_set_off (by decide), show 0 + (i - 0) = i from by omega]
    · simp only [Nat.reduceAdd]; rw [pm_row_off (by decide), pm_row_off (by decide), pm_row_off (by decide), pm_row_off (by decide), pm_row_off (by decide), pm_row_at]; unfold va_cpy; rw [if_pos (by omega), pm_row_off (by decide), pm_row_off (by decide), pm_row_off (by decide), pm_row_off (by decide), pm_row_off (by decide), pm_row_off (by decide), pm_set_off (by decide), pm_set_off (by decide), show 0 + (i - 0) = i from by omega]
    · simp only [Nat.reduceAdd]; rw [pm_row_off (by decide), pm_row_off (by decide), pm_row_off (by decide), pm_row_off (by decide), pm_row_at]; unfold va_cpy; rw [if_pos (by omega), pm_row_off (by decide), pm_row_off (by decide), pm_row_off (by decide), pm_row_off (by decide), pm_row_off (by decide), pm_row_off (by decide), pm_row_off (by decide), pm_set_off (by decide), pm_set_off (by decide), show 0 + (i - 0) = i from by omega]
    · simp only [Nat.reduceAdd]; rw [pm_row_off (by decide), pm_row_off (by decide), pm_row_off (by decide), pm_row_at]; unfold va_cpy; rw [if_pos (by omega), pm_row_off (by decide), pm_row_off (by decide), pm_row_off (by decide), pm_row_off (by decide), pm_row_off (by decide), pm_row_off (by decide), pm_row_off (by decide), pm_row_off (by decide), pm_set_off (by decide), pm_set_off (by decide), show 0 + (i - 0) = i from by omega]
    · simp only [Nat.reduceAdd]; rw [pm_row_off (by decide), pm_row_off (by decide), pm_row_at]; unfold va_cpy; rw [if_pos (by omega), pm_row_off (by decide), pm_row_off (by decide), pm_row_off (by decide), pm_row_off (by decide), pm_row_off (by decide), pm_row_off (by decide), pm_row_off (by decide), pm_row_off (by decide), pm_row_off (by decide), pm_set_off (by decide), pm_set_off (by decide), show 0 + (i - 0) = i from by omega]
    · simp only [Nat.reduceAdd]; rw [pm_row_off (by decide), pm_row_at]; unfold va_cpy; rw [if_pos (by omega), pm_row_off (by decide), pm_row_off (by decide), pm_row_off (by decide), pm_row_off (by decide), pm_row_off (by decide), pm_row_off (by decide), pm_row_off (by decide), pm_row_off (by decide), pm_row_off (by decide), pm_row_off (by decide), pm_set_off (by decide), pm_set_off (by decide), show 0 + (i - 0) = i from by omega]
    · simp only [Nat.reduceAdd]; rw [pm_row_at]; unfold va_cpy; rw [if_pos (by omega), pm_row_off (by decide), pm_row_off (by decide), pm_row_off (by decide), pm_row_off (by decide), pm_row_off (by decide), pm_row_off (by decide), pm_row_off (by decide), pm_row_off (by decide), pm_row_off (by decide), pm_row_off (by decide), pm_row_off (by decide), pm_set_off (by decide), pm_set_off (by decide), show 0 + (i - 0) = i from by omega])
set_option maxHeartbeats 4000000 in
set_option maxRecDepth 100000 in
theorem c_X5_copyFrom_1_135 {g : Nat → Int32} (μ : pm_Mm) (hR : lr_Rel μ.1 135 g) (hB : lr_B g) : pm_CT mi_X5_copyFrom [.ref 1, .ref 135] μ (fun v μ2 => v = none ∧ μ2.2 = μ.2 ∧ (∀ i, (i < 1 ∨ 39 < i) → μ2.1 i = μ.1 i) ∧ lr_Rel μ2.1 1 g) pm_NX := by
  refine pm_CT_of (lo := [some (.ref 1), some (.ref 135)]) (by decide +kernel) rfl rfl (by intro v hv; simp at hv; rcases hv with rfl | rfl <;> rfl) (Nat.le_of_ble_eq_true rfl) rfl ?_
  obtain ⟨hm1, hm3, hm2, hm4, hm5, hm6⟩ := id hB
  refine pm_bl [(.aload_n 0, 1, 0, 0, 0), (.getfield 12, 3, 5, 0, 0), (.aload_n 1, 1, 1, 0, 0), (.getfield 12, 3, 5, 0, 0)] (pc1 := 8) (lo1 := [some (.ref 1), some (.ref 135)]) (st1 := [.ref 136, .ref 2]) (μ1 := μ) (vc := True) rfl (by decide +kernel) rfl trivial ?_
  refine pm_callV2 mi_X3_copyFrom (ix := 61) (b := 2) (ci := 3) (kc2 := 0) (ks2 := 0) (As := [.ref 136]) (rest := []) (c_X3_copyFrom_1_135 μ hR.2.1 hm1) cal_X3_copyFrom lk5_61 (by decide +kernel) rfl (by decide +kernel) rfl rfl rfl rfl (Nat.le_of_ble_eq_true rfl) (by decide) (by decide) (fun _ _ h9 => h9.elim) ?_
  rintro _ μ1 ⟨rfl, x1, f1, r1⟩
  show pm_V _ _ _ _ 11 _ [] _
  refine pm_bl [(.aload_n 0, 1, 0, 0, 0), (.getfield 21, 3, 5, 1, 0), (.aload_n 1, 1, 1, 0, 0), (.getfield 21, 3, 5, 1, 0)] (pc1 := 19) (lo1 := [some (.ref 1), some (.ref 135)]) (st1 := [.ref 139, .ref 5]) (μ1 := μ1) (vc := True) rfl (by decide +kernel) rfl trivial ?_
  refine pm_callV2 mi_X6_copyFrom (ix := 65) (b := 5) (ci := 6) (kc2 := 0) (ks2 := 0) (As := [.ref 139]) (rest := []) (c_X6_copyFrom_1_135 μ1 (lr_Rp.st (b := 135) hR.2.2.1 hm3 (fun k h1 h2 => by rw [f1 _ (by omega)]) (fun _ _ _ => rfl)) hm3) cal_X6_copyFrom lk5_65 (by decide +kernel) rfl (by decide +kernel) rfl rfl rfl rfl (Nat.le_of_ble_eq_true rfl) (by decide) (by decide) (fun _ _ h9 => h9.elim) ?_
  rintro _ μ2 ⟨rfl, x2, f2, r2⟩
  show pm_V _ _ _ _ 22 _ [] _
  refine pm_bl [(.aload_n 0, 1, 0, 0, 0), (.getfield 28, 3, 5, 2, 0), (.aload_n 1, 1, 1, 0, 0), (.getfield 28, 3, 5, 2, 0)] (pc1 := 30) (lo1 := [some (.ref 1), some (.ref 135)]) (st1 := [.ref 144, .ref 10]) (μ1 := μ2) (vc := True) rfl (by decide +kernel) rfl trivial ?_
  refine pm_callV2 mi_X8_copyFrom (ix := 68) (b := 10) (ci := 8) (kc2 := 0) (ks2 := 0) (As := [.ref 144]) (rest := []) (c_X8_copyFrom_1_135 μ2 (lr_Rw.st (b := 135) hR.2.2.2.1 hm2 (fun k h1 h2 => by rw [f2 _ (by omega), f1 _ (by omega)]) (fun _ _ _ => rfl)) hm2) cal_X8_copyFrom lk5_68 (by decide +kernel) rfl (by decide +kernel) rfl rfl rfl rfl (Nat.le_of_ble_eq_true rfl) (by decide) (by decide) (fun _ _ h9 => h9.elim) ?_
  rintro _ μ3 ⟨rfl, x3, f3, r3⟩
  show pm_V _ _ _ _ 33 _ [] _
  refine pm_bl [(.aload_n 0, 1, 0, 0, 0), (.getfield 35, 3, 5, 3, 0), (.aload_n 1, 1, 1, 0, 0), (.getfield 35, 3, 5, 3, 0)] (pc1 := 41) (lo1 := [some (.ref 1), some (.ref 135)]) (st1 := [.ref 150, .ref 16]) (μ1 := μ3) (vc := True) rfl (by decide +kernel) rfl trivial ?_
  refine pm_callV2 mi_X7_copyFrom (ix := 71) (b := 16) (ci := 7) (kc2 := 0) (ks2 := 0) (As := [.ref 150]) (rest := []) (c_X7_copyFrom_1_135 μ3 (lr_Rr.st (b := 135) hR.2.2.2.2.1 hm4 (fun k h1 h2 => by rw [f3 _ (by omega), f2 _ (by omega), f1 _ (by omega)]) (fun _ _ _ => rfl)) hm4) cal_X7_copyFrom lk5_71 (by decide +kernel) rfl (by decide +kernel) rfl rfl rfl rfl (Nat.le_of_ble_eq_true rfl) (by decide) (by decide) (fun _ _ h9 => h9.elim) ?_
  rintro _ μ4 ⟨rfl, x4, f4, r4⟩
  show pm_V _ _ _ _ 44 _ [] _
  refine pm_bl [(.aload_n 0, 1, 0, 0, 0), (.getfield 42, 3, 5, 4, 0), (.aload_n 1, 1, 1, 0, 0), (.getfield 42, 3, 5, 4, 0)] (pc1 := 52) (lo1 := [some (.ref 1), some (.ref 135)]) (st1 := [.ref 156, .ref 22]) (μ1 := μ4) (vc := True) rfl (by decide +kernel) rfl trivial ?_
  refine pm_callV2 mi_X0_copyFrom (ix := 74) (b := 22) (ci := 0) (kc2 := 0) (ks2 := 0) (As := [.ref 156]) (rest := []) (c_X0_copyFrom_1_135 μ4 (lr_Ra.st (b := 135) hR.2.2.2.2.2.1 hm5 (fun k h1 h2 => by rw [f4 _ (by omega), f3 _ (by omega), f2 _ (by omega), f1 _ (by omega)]) (fun _ _ _ => rfl)) hm5) cal_X0_copyFrom lk5_74 (by decide +kernel) rfl (by decide +kernel) rfl rfl rfl rfl (Nat.le_of_ble_eq_true rfl) (by decide) (by decide) (fun _ _ h9 => h9.elim) ?_
  rintro _ μ5 ⟨rfl, x5, f5, r5⟩
  show pm_V _ _ _ _ 55 _ [] _
  refine pm_bl [(.aload_n 0, 1, 0, 0, 0), (.getfield 49, 3, 5, 5, 0), (.aload_n 1, 1, 1, 0, 0), (.getfield 49, 3, 5, 5, 0)] (pc1 := 63) (lo1 := [some (.ref 1), some (.ref 135)]) (st1 := [.ref 160, .ref 26]) (μ1 := μ5) (vc := True) rfl (by decide +kernel) rfl trivial ?_
  refine pm_callV2 mi_X4_copyFrom (ix := 77) (b := 26) (ci := 4) (kc2 := 0) (ks2 := 0) (As := [.ref 160]) (rest := []) (c_X4_copyFrom_1_135 μ5 (lr_Rl.st (b := 135) hR.2.2.2.2.2.2 hm6 (fun k h1 h2 => by rw [f5 _ (by omega), f4 _ (by omega), f3 _ (by omega), f2 _ (by omega), f1 _ (by omega)]) rfl (fun _ _ _ => rfl)) hm6) cal_X4_copyFrom lk5_77 (by decide +kernel) rfl (by decide +kernel) rfl rfl rfl rfl (Nat.le_of_ble_eq_true rfl) (by decide) (by decide) (fun _ _ h9 => h9.elim) ?_
  rintro _ μ6 ⟨rfl, x6, f6, r6⟩
  show pm_V _ _ _ _ 66 _ [] _
  refine pm_bl [(.aload_n 0, 1, 0, 0, 0), (.aload_n 1, 1, 1, 0, 0), (.getfield 53, 3, 5, 6, 0), (.putfield 53, 3, 5, 6, 0)] (pc1 := 74) (lo1 := [some (.ref 1), some (.ref 135)]) (st1 := []) (μ1 := pm_set μ6 1 6 (μ6.1 135 6)) (vc := True) rfl (by decide +kernel) rfl trivial ?_
  exact pm_vret rfl (by decide) (by decide) (by decide +kernel) (⟨rfl, (x6.trans (x5.trans (x4.trans (x3.trans (x2.trans x1))))), fun i hi => by rw [pm_set_off (by omega), f6 _ (by omega), f5 _ (by omega), f4 _ (by omega), f3 _ (by omega), f2 _ (by omega), f1 _ (by omega)], by rw [pm_set_hit, f6 _ (by omega), f5 _ (by omega), f4 _ (by omega), f3 _ (by omega), f2 _ (by omega), f1 _ (by omega)]; exact hR.1, lr_Rh.st (b := 1) r1 hm1 (fun k h1 h2 => by rw [pm_set_off (by omega), f6 _ (by omega), f5 _ (by omega), f4 _ (by omega), f3 _ (by omega), f2 _ (by omega)]) (fun _ _ _ => rfl), lr_Rp.st (b := 1) r2 hm3 (fun k h1 h2 => by rw [pm_set_off (by omega), f6 _ (by omega), f5 _ (by omega), f4 _ (by omega), f3 _ (by omega)]) (fun _ _ _ => rfl), lr_Rw.st (b := 1) r3 hm2 (fun k h1 h2 => by rw [pm_set_off (by omega), f6 _ (by omega), f5 _ (by omega), f4 _ (by omega)]) (fun _ _ _ => rfl), lr_Rr.st (b := 1) r4 hm4 (fun k h1 h2 => by rw [pm_set_off (by omega), f6 _ (by omega), f5 _ (by omega)]) (fun _ _ _ => rfl), lr_Ra.st (b := 1) r5 hm5 (fun k h1 h2 => by rw [pm_set_off (by omega), f6 _ (by omega)]) (fun _ _ _ => rfl), lr_Rl.st (b := 1) r6 hm6 (fun k h1 h2 => by rw [pm_set_off (by omega)]) rfl (fun _ _ _ => rfl)⟩)
set_option maxHeartbeats 4000000 in
set_option maxRecDepth 100000 in
theorem c_X3_copyFrom_1_174 {g : Nat → Int32} (μ : pm_Mm) (hX : lr_Rh μ.1 174 g) (hn : lr_n g 2 ≤ 16) : pm_CT mi_X3_copyFrom [.ref 2, .ref 175] μ (fun v μ2 => v = none ∧ μ2.2 = μ.2 ∧ (∀ i, (i < 2 ∨ 4 < i) → μ2.1 i = μ.1 i) ∧ lr_Rh μ2.1 1 g) pm_NX := by
  refine pm_CT_of (lo := [some (.ref 2), some (.ref 175)]) (by decide +kernel) rfl rfl (by intro v hv; simp at hv; rcases hv with rfl | rfl <;> rfl) (Nat.le_of_ble_eq_true rfl) rfl ?_
  refine pm_bl [(.aload_n 0, 1, 0, 0, 0), (.aload_n 1, 1, 1, 0, 0), (.getfield 9, 3, 3, 0, 0), (.putfield 9, 3, 3, 0, 0), (.aload_n 1, 1, 1, 0, 0), (.getfield 15, 3, 3, 1, 0), (.aload_n 0, 1, 0, 0, 0), (.getfield 15, 3, 3, 1, 0)] (pc1 := 16) (lo1 := [some (.ref 2), some (.ref 175)]) (st1 := [.ref 3, .ref 176]) (μ1 := pm_set μ 2 0 (μ.1 175 0)) (vc := True) rfl (by decide +kernel) rfl trivial ?_
  refine pm_callSN2 mi_X9_copyRow (ix := 22) (host := RX9) (kc2 := 0) (ks2 := 0) (As := [.ref 176, .ref 3]) (rest := []) (c_X9_copyRow (a := 176) (b := 3) (n := 16) (pm_set μ 2 0 (μ.1 175 0)) rfl rfl (by decide)) cal_X9_copyRow (by decide +kernel) (by decide +kernel) (by decide +kernel) rfl rfl (Nat.le_of_ble_eq_true rfl) (by decide) (by decide) ?_
  rintro _ μ1 ⟨rfl, e1⟩
  show pm_V _ _ _ _ 19 _ [] _
  refine pm_bl [(.aload_n 1, 1, 1, 0, 0), (.getfield 19, 3, 3, 2, 0), (.aload_n 0, 1, 0, 0, 0), (.getfield 19, 3, 3, 2, 0)] (pc1 := 27) (lo1 := [some (.ref 2), some (.ref 175)]) (st1 := [.ref 4, .ref 177]) (μ1 := μ1) (vc := True) rfl (by decide +kernel) rfl trivial ?_
  refine pm_callSN2 mi_X9_copyRow (ix := 22) (host := RX9) (kc2 := 0) (ks2 := 0) (As := [.ref 177, .ref 4]) (rest := []) (c_X9_copyRow (a := 177) (b := 4) (n := 16) μ1 rfl rfl (by decide)) cal_X9_copyRow (by decide +kernel) (by decide +kernel) (by decide +kernel) rfl rfl (Nat.le_of_ble_eq_true rfl) (by decide) (by decide) ?_
  rintro _ μ2 ⟨rfl, e2⟩
  show pm_V _ _ _ _ 30 _ [] _
  exact pm_vret rfl (by decide) (by decide) (by decide +kernel) (by
    subst e1; subst e2
    refine ⟨rfl, rfl, fun i hi => by rw [pm_row_off (by omega), pm_row_off (by omega), pm_set_off (by omega)], lr_Rh.mv (b := 174) (b2 := 1) hX hn (by simp only [Nat.reduceAdd]; rw [pm_row_off (by decide), pm_row_off (by decide), pm_set_hit]) (fun k i h1 h2 h3 => ?_) (fun _ _ _ => rfl)⟩
    rcases (show k = 2 ∨ k = 3 by omega) with rfl | rfl
    · simp only [Nat.reduceAdd]; rw [pm_row_off (by decide), pm_row_at]; unfold va_cpy; rw [if_pos (by omega), pm_set_off (by decide), show 0 + (i - 0) = i from by omega]
    · simp only [Nat.reduceAdd]; rw [pm_row_at]; unfold va_cpy; rw [if_pos (by omega), pm_row_off (by decide), pm_set_off (by decide), show 0 + (i - 0) = i from by omega])
set_option maxHeartbeats 4000000 in
set_option maxRecDepth 100000 in
theorem c_X6_copyFrom_1_174 {g : Nat → Int32} (μ : pm_Mm) (hX : lr_Rp μ.1 174 g) (hn : lr_n g 35 ≤ 20) : pm_CT mi_X6_copyFrom [.ref 5, .ref 178] μ (fun v μ2 => v = none ∧ μ2.2 = μ.2 ∧ (∀ i, (i < 5 ∨ 9 < i) → μ2.1 i = μ.1 i) ∧ lr_Rp μ2.1 1 g) pm_NX := by
  refine pm_CT_of (lo := [some (.ref 5), some (.ref 178)]) (by decide +kernel) rfl rfl (by intro v hv; simp at hv; rcases hv with rfl | rfl <;> rfl) (Nat.le_of_ble_eq_true rfl) rfl ?_
  refine pm_bl [(.aload_n 0, 1, 0, 0, 0), (.aload_n 1, 1, 1, 0, 0), (.getfield 9, 3, 6, 0, 0), (.putfield 9, 3, 6, 0, 0), (.aload_n 1, 1, 1, 0, 0), (.getfield 15, 3, 6, 1, 0), (.aload_n 0, 1, 0, 0, 0), (.getfield 15, 3, 6, 1, 0)] (pc1 := 16) (lo1 := [some (.ref 5), some (.ref 178)]) (st1 := [.ref 6, .ref 179]) (μ1 := pm_set μ 5 0 (μ.1 178 0)) (vc := True) rfl (by decide +kernel) rfl trivial ?_
  refine pm_callSN2 mi_X9_copyRow (ix := 28) (host := RX9) (kc2 := 0) (ks2 := 0) (As := [.ref 179, .ref 6]) (rest := []) (c_X9_copyRow (a := 179) (b := 6) (n := 20) (pm_set μ 5 0 (μ.1 178 0)) rfl rfl (by decide)) cal_X9_copyRow (by decide +kernel) (by decide +kernel) (by decide +kernel) rfl rfl (Nat.le_of_ble_eq_true rfl) (by decide) (by decide) ?_
  rintro _ μ1 ⟨rfl, e1⟩
  show pm_V _ _ _ _ 19 _ [] _
  refine pm_bl [(.aload_n 1, 1, 1, 0, 0), (.getfield 19, 3, 6, 2, 0), (.aload_n 0, 1, 0, 0, 0), (.getfield 19, 3, 6, 2, 0)] (pc1 := 27) (lo1 := [some (.ref 5), some (.ref 178)]) (st1 := [.ref 7, .ref 180]) (μ1 := μ1) (vc := True) rfl (by decide +kernel) rfl trivial ?_
  refine pm_callSN2 mi_X9_copyRow (ix := 28) (host := RX9) (kc2 := 0) (ks2 := 0) (As := [.ref 180, .ref 7]) (rest := []) (c_X9_copyRow (a := 180) (b := 7) (n := 20) μ1 rfl rfl (by decide)) cal_X9_copyRow (by decide +kernel) (by decide +kernel) (by decide +kernel) rfl rfl (Nat.le_of_ble_eq_true rfl) (by decide) (by decide) ?_
  rintro _ μ2 ⟨rfl, e2⟩
  show pm_V _ _ _ _ 30 _ [] _
  refine pm_bl [(.aload_n 1, 1, 1, 0, 0), (.getfield 22, 3, 6, 3, 0), (.aload_n 0, 1, 0, 0, 0), (.getfield 22, 3, 6, 3, 0)] (pc1 := 38) (lo1 := [some (.ref 5), some (.ref 178)]) (st1 := [.ref 8, .ref 181]) (μ1 := μ2) (vc := True) rfl (by decide +kernel) rfl trivial ?_
  refine pm_callSN2 mi_X9_copyRow (ix := 28) (host := RX9) (kc2 := 0) (ks2 := 0) (As := [.ref 181, .ref 8]) (rest := []) (c_X9_copyRow (a := 181) (b := 8) (n := 20) μ2 rfl rfl (by decide)) cal_X9_copyRow (by decide +kernel) (by decide +kernel) (by decide +kernel) rfl rfl (Nat.le_of_ble_eq_true rfl) (by decide) (by decide) ?_
  rintro _ μ3 ⟨rfl, e3⟩
  show pm_V _ _ _ _ 41 _ [] _
  refine pm_bl [(.aload_n 1, 1, 1, 0, 0), (.getfield 25, 3, 6, 4, 0), (.aload_n 0, 1, 0, 0, 0), (.getfield 25, 3, 6, 4, 0)] (pc1 := 49) (lo1 := [some (.ref 5), some (.ref 178)]) (st1 := [.ref 9, .ref 182]) (μ1 := μ3) (vc := True) rfl (by decide +kernel) rfl trivial ?_
  refine pm_callSN2 mi_X9_copyRow (ix := 28) (host := RX9) (kc2 := 0) (ks2 := 0) (As := [.ref 182, .ref 9]) (rest := []) (c_X9_copyRow (a := 182) (b := 9) (n := 20) μ3 rfl rfl (by decide)) cal_X9_copyRow (by decide +kernel) (by decide +kernel) (by decide +kernel) rfl rfl (Nat.le_of_ble_eq_true rfl) (by decide) (by decide) ?_
  rintro _ μ4 ⟨rfl, e4⟩
  show pm_V _ _ _ _ 52 _ [] _
  exact pm_vret rfl (by decide) (by decide) (by decide +kernel) (by
    subst e1; subst e2; subst e3; subst e4
    refine ⟨rfl, rfl, fun i hi => by rw [pm_row_off (by omega), pm_row_off (by omega), pm_row_off (by omega), pm_row_off (by omega), pm_set_off (by omega)], lr_Rp.mv (b := 174) (b2 := 1) hX hn (by simp only [Nat.reduceAdd]; rw [pm_row_off (by decide), pm_row_off (by decide), pm_row_off (by decide), pm_row_off (by decide), pm_set_hit]) (fun k i h1 h2 h3 => ?_) (fun _ _ _ => rfl)⟩
    rcases (show k = 5 ∨ k = 6 ∨ k = 7 ∨ k = 8 by omega) with rfl | rfl | rfl | rfl
    · simp only [Nat.reduceAdd]; rw [pm_row_off (by decide), pm_row_off (by decide), pm_row_off (by decide), pm_row_at]; unfold va_cpy; rw [if_pos (by omega), pm_set_off (by decide), show 0 + (i - 0) = i from by omega]
    · simp only [Nat.reduceAdd]; rw [pm_row_off (by decide), pm_row_off (by decide), pm_row_at]; unfold va_cpy; rw [if_pos (by omega), pm_row_off (by decide), pm_set_off (by decide), show 0 + (i - 0) = i from by omega]
    · simp only [Nat.reduceAdd]; rw [pm_row_off (by decide), pm_row_at]; unfold va_cpy; rw [if_pos (by omega), pm_row_off (by decide), pm_row_off (by decide), pm_set_off (by decide), show 0 + (i - 0) = i from by omega]
    · simp only [Nat.reduceAdd]; rw [pm_row_at]; unfold va_cpy; rw [if_pos (by omega), pm_row_off (by decide), pm_row_off (by decide), pm_row_off (by decide), pm_set_off (by decide), show 0 + (i - 0) = i from by omega])
set_option maxHeartbeats 4000000 in
set_option maxRecDepth 100000 in
theorem c_X8_copyFrom_1_174 {g : Nat → Int32} (μ : pm_Mm) (hX : lr_Rw μ.1 174 g) (hn : lr_n g 116 ≤ 10) : pm_CT mi_X8_copyFrom [.ref 10, .ref 183] μ (fun v μ2 => v = none ∧ μ2.2 = μ.2 ∧ (∀ i, (i < 10 ∨ 15 < i) → μ2.1 i = μ.1 i) ∧ lr_Rw μ2.1 1 g) pm_NX := by
  refine pm_CT_of (lo := [some (.ref 10), some (.ref 183)]) (by decide +kernel) rfl rfl (by intro v hv; simp at hv; rcases hv with rfl | rfl <;> rfl) (Nat.le_of_ble_eq_true rfl) rfl ?_
  refine pm_bl [(.aload_n 0, 1, 0, 0, 0), (.aload_n 1, 1, 1, 0, 0), (.getfield 9, 3, 8, 0, 0), (.putfield 9, 3, 8, 0, 0), (.aload_n 1, 1, 1, 0, 0), (.getfield 15, 3, 8, 1, 0), (.aload_n 0, 1, 0, 0, 0), (.getfield 15, 3, 8, 1, 0)] (pc1 := 16) (lo1 := [some (.ref 10), some (.ref 183)]) (st1 := [.ref 11, .ref 184]) (μ1 := pm_set μ 10 0 (μ.1 183 0)) (vc := True) rfl (by decide +kernel) rfl trivial ?_
  refine pm_callSN2 mi_X9_copyRow (ix := 31) (host := RX9) (kc2 := 0) (ks2 := 0) (As := [.ref 184, .ref 11]) (rest := []) (c_X9_copyRow (a := 184) (b := 11) (n := 10) (pm_set μ 10 0 (μ.1 183 0)) rfl rfl (by decide)) cal_X9_copyRow (by decide +kernel) (by decide +kernel) (by decide +kernel) rfl rfl (Nat.le_of_ble_eq_true rfl) (by decide) (by decide) ?_
  rintro _ μ1 ⟨rfl, e1⟩
  show pm_V _ _ _ _ 19 _ [] _
  refine pm_bl [(.aload_n 1, 1, 1, 0, 0), (.getfield 19, 3, 8, 2, 0), (.aload_n 0, 1, 0, 0, 0), (.getfield 19, 3, 8, 2, 0)] (pc1 := 27) (lo1 := [some (.ref 10), some (.ref 183)]) (st1 := [.ref 12, .ref 185]) (μ1 := μ1) (vc := True) rfl (by decide +kernel) rfl trivial ?_
  refine pm_callSN2 mi_X9_copyRow (ix := 31) (host := RX9) (kc2 := 0) (ks2 := 0) (As := [.ref 185, .ref 12]) (rest := []) (c_X9_copyRow (a := 185) (b := 12) (n := 10) μ1 rfl rfl (by decide)) cal_X9_copyRow (by decide +kernel) (by decide +kernel) (by decide +kernel) rfl rfl (Nat.le_of_ble_eq_true rfl) (by decide) (by decide) ?_
  rintro _ μ2 ⟨rfl, e2⟩
  show pm_V _ _ _ _ 30 _ [] _
  refine pm_bl [(.aload_n 1, 1, 1, 0, 0), (.getfield 22, 3, 8, 3, 0), (.aload_n 0, 1, 0, 0, 0), (.getfield 22, 3, 8, 3, 0)] (pc1 := 38) (lo1 := [some (.ref 10), some (.ref 183)]) (st1 := [.ref 13, .ref 186]) (μ1 := μ2) (vc := True) rfl (by decide +kernel) rfl trivial ?_
  refine pm_callSN2 mi_X9_copyRow (ix := 31) (host := RX9) (kc2 := 0) (ks2 := 0) (As := [.ref 186, .ref 13]) (rest := []) (c_X9_copyRow (a := 186) (b := 13) (n := 10) μ2 rfl rfl (by decide)) cal_X9_copyRow (by decide +kernel) (by decide +kernel) (by decide +kernel) rfl rfl (Nat.le_of_ble_eq_true rfl) (by decide) (by decide) ?_
  rintro _ μ3 ⟨rfl, e3⟩
  show pm_V _ _ _ _ 41 _ [] _
  refine pm_bl [(.aload_n 1, 1, 1, 0, 0), (.getfield 25, 3, 8, 4, 0), (.aload_n 0, 1, 0, 0, 0), (.getfield 25, 3, 8, 4, 0)] (pc1 := 49) (lo1 := [some (.ref 10), some (.ref 183)]) (st1 := [.ref 14, .ref 187]) (μ1 := μ3) (vc := True) rfl (by decide +kernel) rfl trivial ?_
  refine pm_callSN2 mi_X9_copyRow (ix := 31) (host := RX9) (kc2 := 0) (ks2 := 0) (As := [.ref 187, .ref 14]) (rest := []) (c_X9_copyRow (a := 187) (b := 14) (n := 10) μ3 rfl rfl (by decide)) cal_X9_copyRow (by decide +kernel) (by decide +kernel) (by decide +kernel) rfl rfl (Nat.le_of_ble_eq_true rfl) (by decide) (by decide) ?_
  rintro _ μ4 ⟨rfl, e4⟩
  show pm_V _ _ _ _ 52 _ [] _
  refine pm_bl [(.aload_n 1, 1, 1, 0, 0), (.getfield 28, 3, 8, 5, 0), (.aload_n 0, 1, 0, 0, 0), (.getfield 28, 3, 8, 5, 0)] (pc1 := 60) (lo1 := [some (.ref 10), some (.ref 183)]) (st1 := [.ref 15, .ref 188]) (μ1 := μ4) (vc := True) rfl (by decide +kernel) rfl trivial ?_
  refine pm_callSN2 mi_X9_copyRow (ix := 31) (host := RX9) (kc2 := 0) (ks2 := 0) (As := [.ref 188, .ref 15]) (rest := []) (c_X9_copyRow (a := 188) (b := 15) (n := 10) μ4 rfl rfl (by decide)) cal_X9_copyRow (by decide +kernel) (by decide +kernel) (by decide +kernel) rfl rfl (Nat.le_of_ble_eq_true rfl) (by decide) (by decide) ?_
  rintro _ μ5 ⟨rfl, e5⟩
  show pm_V _ _ _ _ 63 _ [] _
  exact pm_vret rfl (by decide) (by decide) (by decide +kernel) (by
    subst e1; subst e2; subst e3; subst e4; subst e5
    refine ⟨rfl, rfl, fun i hi => by rw [pm_row_off (by omega), pm_row_off (by omega), pm_row_off (by omega), pm_row_off (by omega), pm_row_off (by omega), pm_set_off (by omega)], lr_Rw.mv (b := 174) (b2 := 1) hX hn (by simp only [Nat.reduceAdd]; rw [pm_row_off (by decide), pm_row_off (by decide), pm_row_off (by decide), pm_row_off (by decide), pm_row_off (by decide), pm_set_hit]) (fun k i h1 h2 h3 => ?_) (fun _ _ _ => rfl)⟩
    rcases (show k = 10 ∨ k = 11 ∨ k = 12 ∨ k = 13 ∨ k = 14 by omega) with rfl | rfl | rfl | rfl | rfl
    · simp only [Nat.reduceAdd]; rw [pm_row_off (by decide), pm_row_off (by decide), pm_row_off (by decide), pm_row_off (by decide), pm_row_at]; unfold va_cpy; rw [if_pos (by omega), pm_set_off (by decide), show 0 + (i - 0) = i from by omega]
    · simp only [Nat.reduceAdd]; rw [pm_row_off (by decide), pm_row_off (by decide), pm_row_off (by decide), pm_row_at]; unfold va_cpy; rw [if_pos (by omega), pm_row_off (by decide), pm_set_off (by decide), show 0 + (i - 0) = i from by omega]
    · simp only [Nat.reduceAdd]; rw [pm_row_off (by decide), pm_row_off (by decide), pm_row_at]; unfold va_cpy; rw [if_pos (by omega), pm_row_off (by decide), pm_row_off (by decide), pm_set_off (by decide), show 0 + (i - 0) = i from by omega]
    · simp only [Nat.reduceAdd]; rw [pm_row_off (by decide), pm_row_at]; unfold va_cpy; rw [if_pos (by omega), pm_row_off (by decide), pm_row_off (by decide), pm_row_off (by decide), pm_set_off (by decide), show 0 + (i - 0) = i from by omega]
    · simp only [Nat.reduceAdd]; rw [pm_row_at]; unfold va_cpy; rw [if_pos (by omega), pm_row_off (by decide), pm_row_off (by decide), pm_row_off (by decide), pm_row_off (by decide), pm_set_off (by decide), show 0 + (i - 0) = i from by omega])
set_option maxHeartbeats 4000000 in
set_option maxRecDepth 100000 in
theorem c_X7_copyFrom_1_174 {g : Nat → Int32} (μ : pm_Mm) (hX : lr_Rr μ.1 174 g) (hn : lr_n g 167 ≤ 12) : pm_CT mi_X7_copyFrom [.ref 16, .ref 189] μ (fun v μ2 => v = none ∧ μ2.2 = μ.2 ∧ (∀ i, (i < 16 ∨ 21 < i) → μ2.1 i = μ.1 i) ∧ lr_Rr μ2.1 1 g) pm_NX := by
  refine pm_CT_of (lo := [some (.ref 16), some (.ref 189)]) (by decide +kernel) rfl rfl (by intro v hv; simp at hv; rcases hv with rfl | rfl <;> rfl) (Nat.le_of_ble_eq_true rfl) rfl ?_
  refine pm_bl [(.aload_n 0, 1, 0, 0, 0), (.aload_n 1, 1, 1, 0, 0), (.getfield 9, 3, 7, 0, 0), (.putfield 9, 3, 7, 0, 0), (.aload_n 1, 1, 1, 0, 0), (.getfield 15, 3, 7, 1, 0), (.aload_n 0, 1, 0, 0, 0), (.getfield 15, 3, 7, 1, 0)] (pc1 := 16) (lo1 := [some (.ref 16), some (.ref 189)]) (st1 := [.ref 17, .ref 190]) (μ1 := pm_set μ 16 0 (μ.1 189 0)) (vc := True) rfl (by decide +kernel) rfl trivial ?_
  refine pm_callSN2 mi_X9_copyRow (ix := 31) (host := RX9) (kc2 := 0) (ks2 := 0) (As := [.ref 190, .ref 17]) (rest := []) (c_X9_copyRow (a := 190) (b := 17) (n := 12) (pm_set μ 16 0 (μ.1 189 0)) rfl rfl (by decide)) cal_X9_copyRow (by decide +kernel) (by decide +kernel) (by decide +kernel) rfl rfl (Nat.le_of_ble_eq_true rfl) (by decide) (by decide) ?_
  rintro _ μ1 ⟨rfl, e1⟩
  show pm_V _ _ _ _ 19 _ [] _
  refine pm_bl [(.aload_n 1, 1, 1, 0, 0), (.getfield 19, 3, 7, 2, 0), (.aload_n 0, 1, 0, 0, 0), (.getfield 19, 3, 7, 2, 0)] (pc1 := 27) (lo1 := [some (.ref 16), some (.ref 189)]) (st1 := [.ref 18, .ref 191]) (μ1 := μ1) (vc := True) rfl (by decide +kernel) rfl trivial ?_
  refine pm_callSN2 mi_X9_copyRow (ix := 31) (host := RX9) (kc2 := 0) (ks2 := 0) (As := [.ref 191, .ref 18]) (rest := []) (c_X9_copyRow (a := 191) (b := 18) (n := 12) μ1 rfl rfl (by decide)) cal_X9_copyRow (by decide +kernel) (by decide +kernel) (by decide +kernel) rfl rfl (Nat.le_of_ble_eq_true rfl) (by decide) (by decide) ?_
  rintro _ μ2 ⟨rfl, e2⟩
  show pm_V _ _ _ _ 30 _ [] _
  refine pm_bl [(.aload_n 1, 1, 1, 0, 0), (.getfield 22, 3, 7, 3, 0), (.aload_n 0, 1, 0, 0, 0), (.getfield 22, 3, 7, 3, 0)] (pc1 := 38) (lo1 := [some (.ref 16), some (.ref 189)]) (st1 := [.ref 19, .ref 192]) (μ1 := μ2) (vc := True) rfl (by decide +kernel) rfl trivial ?_
  refine pm_callSN2 mi_X9_copyRow (ix := 31) (host := RX9) (kc2 := 0) (ks2 := 0) (As := [.ref 192, .ref 19]) (rest := []) (c_X9_copyRow (a := 192) (b := 19) (n := 12) μ2 rfl rfl (by decide)) cal_X9_copyRow (by decide +kernel) (by decide +kernel) (by decide +kernel) rfl rfl (Nat.le_of_ble_eq_true rfl) (by decide) (by decide) ?_
  rintro _ μ3 ⟨rfl, e3⟩
  show pm_V _ _ _ _ 41 _ [] _
  refine pm_bl [(.aload_n 1, 1, 1, 0, 0), (.getfield 25, 3, 7, 4, 0), (.aload_n 0, 1, 0, 0, 0), (.getfield 25, 3, 7, 4, 0)] (pc1 := 49) (lo1 := [some (.ref 16), some (.ref 189)]) (st1 := [.ref 20, .ref 193]) (μ1 := μ3) (vc := True) rfl (by decide +kernel) rfl trivial ?_
  refine pm_callSN2 mi_X9_copyRow (ix := 31) (host := RX9) (kc2 := 0) (ks2 := 0) (As := [.ref 193, .ref 20]) (rest := []) (c_X9_copyRow (a := 193) (b := 20) (n := 12) μ3 rfl rfl (by decide)) cal_X9_copyRow (by decide +kernel) (by decide +kernel) (by decide +kernel) rfl rfl (Nat.le_of_ble_eq_true rfl) (by decide) (by decide) ?_
  rintro _ μ4 ⟨rfl, e4⟩
  show pm_V _ _ _ _ 52 _ [] _
  refine pm_bl [(.aload_n 1, 1, 1, 0, 0), (.getfield 28, 3, 7, 5, 0), (.aload_n 0, 1, 0, 0, 0), (.getfield 28, 3, 7, 5, 0)] (pc1 := 60) (lo1 := [some (.ref 16), some (.ref 189)]) (st1 := [.ref 21, .ref 194]) (μ1 := μ4) (vc := True) rfl (by decide +kernel) rfl trivial ?_
  refine pm_callSN2 mi_X9_copyRow (ix := 31) (host := RX9) (kc2 := 0) (ks2 := 0) (As := [.ref 194, .ref 21]) (rest := []) (c_X9_copyRow (a := 194) (b := 21) (n := 12) μ4 rfl rfl (by decide)) cal_X9_copyRow (by decide +kernel) (by decide +kernel) (by decide +kernel) rfl rfl (Nat.le_of_ble_eq_true rfl) (by decide) (by decide) ?_
  rintro _ μ5 ⟨rfl, e5⟩
  show pm_V _ _ _ _ 63 _ [] _
  exact pm_vret rfl (by decide) (by decide) (by decide +kernel) (by
    subst e1; subst e2; subst e3; subst e4; subst e5
    refine ⟨rfl, rfl, fun i hi => by rw [pm_row_off (by omega), pm_row_off (by omega), pm_row_off (by omega), pm_row_off (by omega), pm_row_off (by omega), pm_set_off (by omega)], lr_Rr.mv (b := 174) (b2 := 1) hX hn (by simp only [Nat.reduceAdd]; rw [pm_row_off (by decide), pm_row_off (by decide), pm_row_off (by decide), pm_row_off (by decide), pm_row_off (by decide), pm_set_hit]) (fun k i h1 h2 h3 => ?_) (fun _ _ _ => rfl)⟩
    rcases (show k = 16 ∨ k = 17 ∨ k = 18 ∨ k = 19 ∨ k = 20 by omega) with rfl | rfl | rfl | rfl | rfl
    · simp only [Nat.reduceAdd]; rw [pm_row_off (by decide), pm_row_off (by decide), pm_row_off (by decide), pm_row_off (by decide), pm_row_at]; unfold va_cpy; rw [if_pos (by omega), pm_set_off (by decide), show 0 + (i - 0) = i from by omega]
    · simp only [Nat.reduceAdd]; rw [pm_row_off (by decide), pm_row_off (by decide), pm_row_off (by decide), pm_row_at]; unfold va_cpy; rw [if_pos (by omega), pm_row_off (by decide), pm_set_off (by decide), show 0 + (i - 0) = i from by omega]
    · simp only [Nat.reduceAdd]; rw [pm_row_off (by decide), pm_row_off (by decide), pm_row_at]; unfold va_cpy; rw [if_pos (by omega), pm_row_off (by decide), pm_row_off (by decide), pm_set_off (by decide), show 0 + (i - 0) = i from by omega]
    · simp only [Nat.reduceAdd]; rw [pm_row_off (by decide), pm_row_at]; unfold va_cpy; rw [if_pos (by omega), pm_row_off (by decide), pm_row_off (by decide), pm_row_off (by decide), pm_set_off (by decide), show 0 + (i - 0) = i from by omega]
    · simp only [Nat.reduceAdd]; rw [pm_row_at]; unfold va_cpy; rw [if_pos (by omega), pm_row_off (by decide), pm_row_off (by decide), pm_row_off (by decide), pm_row_off (by decide), pm_set_off (by decide), show 0 + (i - 0) = i from by omega])
set_option maxHeartbeats 4000000 in
set_option maxRecDepth 100000 in
theorem c_X0_copyFrom_1_174 {g : Nat → Int32} (μ : pm_Mm) (hX : lr_Ra μ.1 174 g) (hn : lr_n g 228 ≤ 20) : pm_CT mi_X0_copyFrom [.ref 22, .ref 195] μ (fun v μ2 => v = none ∧ μ2.2 = μ.2 ∧ (∀ i, (i < 22 ∨ 25 < i) → μ2.1 i = μ.1 i) ∧ lr_Ra μ2.1 1 g) pm_NX := by
  refine pm_CT_of (lo := [some (.ref 22), some (.ref 195)]) (by decide +kernel) rfl rfl (by intro v hv; simp at hv; rcases hv with rfl | rfl <;> rfl) (Nat.le_of_ble_eq_true rfl) rfl ?_
  refine pm_bl [(.aload_n 0, 1, 0, 0, 0), (.aload_n 1, 1, 1, 0, 0), (.getfield 9, 3, 0, 0, 0), (.putfield 9, 3, 0, 0, 0), (.aload_n 1, 1, 1, 0, 0), (.getfield 15, 3, 0, 1, 0), (.aload_n 0, 1, 0, 0, 0), (.getfield 15, 3, 0, 1, 0)] (pc1 := 16) (lo1 := [some (.ref 22), some (.ref 195)]) (st1 := [.ref 23, .ref 196]) (μ1 := pm_set μ 22 0 (μ.1 195 0)) (vc := True) rfl (by decide +kernel) rfl trivial ?_
  refine pm_callSN2 mi_X9_copyRow (ix := 25) (host := RX9) (kc2 := 0) (ks2 := 0) (As := [.ref 196, .ref 23]) (rest := []) (c_X9_copyRow (a := 196) (b := 23) (n := 20) (pm_set μ 22 0 (μ.1 195 0)) rfl rfl (by decide)) cal_X9_copyRow (by decide +kernel) (by decide +kernel) (by decide +kernel) rfl rfl (Nat.le_of_ble_eq_true rfl) (by decide) (by decide) ?_
  rintro _ μ1 ⟨rfl, e1⟩
  show pm_V _ _ _ _ 19 _ [] _
  refine pm_bl [(.aload_n 1, 1, 1, 0, 0), (.getfield 19, 3, 0, 2, 0), (.aload_n 0, 1, 0, 0, 0), (.getfield 19, 3, 0, 2, 0)] (pc1 := 27) (lo1 := [some (.ref 22), some (.ref 195)]) (st1 := [.ref 24, .ref 197]) (μ1 := μ1) (vc := True) rfl (by decide +kernel) rfl trivial ?_
  refine pm_callSN2 mi_X9_copyRow (ix := 25) (host := RX9) (kc2 := 0) (ks2 := 0) (As := [.ref 197, .ref 24]) (rest := []) (c_X9_copyRow (a := 197) (b := 24) (n := 20) μ1 rfl rfl (by decide)) cal_X9_copyRow (by decide +kernel) (by decide +kernel) (by decide +kernel) rfl rfl (Nat.le_of_ble_eq_true rfl) (by decide) (by decide) ?_
  rintro _ μ2 ⟨rfl, e2⟩
  show pm_V _ _ _ _ 30 _ [] _
  refine pm_bl [(.aload_n 1, 1, 1, 0, 0), (.getfield 22, 3, 0, 3, 0), (.aload_n 0, 1, 0, 0, 0), (.getfield 22, 3, 0, 3, 0)] (pc1 := 38) (lo1 := [some (.ref 22), some (.ref 195)]) (st1 := [.ref 25, .ref 198]) (μ1 := μ2) (vc := True) rfl (by decide +kernel) rfl trivial ?_
  refine pm_callSN2 mi_X9_copyRow (ix := 25) (host := RX9) (kc2 := 0) (ks2 := 0) (As := [.ref 198, .ref 25]) (rest := []) (c_X9_copyRow (a := 198) (b := 25) (n := 20) μ2 rfl rfl (by decide)) cal_X9_copyRow (by decide +kernel) (by decide +kernel) (by decide +kernel) rfl rfl (Nat.le_of_ble_eq_true rfl) (by decide) (by decide) ?_
  rintro _ μ3 ⟨rfl, e3⟩
  show pm_V _ _ _ _ 41 _ [] _
  exact pm_vret rfl (by decide) (by decide) (by decide +kernel) (by
    subst e1; subst e2; subst e3
    refine ⟨rfl, rfl, fun i hi => by rw [pm_row_off (by omega), pm_row_off (by omega), pm_row_off (by omega), pm_set_off (by omega)], lr_Ra.mv (b := 174) (b2 := 1) hX hn (by simp only [Nat.reduceAdd]; rw [pm_row_off (by decide), pm_row_off (by decide), pm_row_off (by decide), pm_set_hit]) (fun k i h1 h2 h3 => ?_) (fun _ _ _ => rfl)⟩
    rcases (show k = 22 ∨ k = 23 ∨ k = 24 by omega) with rfl | rfl | rfl
    · simp only [Nat.reduceAdd]; rw [pm_row_off (by decide), pm_row_off (by decide), pm_row_at]; unfold va_cpy; rw [if_pos (by omega), pm_set_off (by decide), show 0 + (i - 0) = i from by omega]
    · simp only [Nat.reduceAdd]; rw [pm_row_off (by decide), pm_row_at]; unfold va_cpy; rw [if_pos (by omega), pm_row_off (by decide), pm_set_off (by decide), show 0 + (i - 0) = i from by omega]
    · simp only [Nat.reduceAdd]; rw [pm_row_at]; unfold va_cpy; rw [if_pos (by omega), pm_row_off (by decide), pm_row_off (by decide), pm_set_off (by decide), show 0 + (i - 0) = i from by omega])
set_option maxHeartbeats 4000000 in
set_option maxRecDepth 100000 in
theorem c_X4_copyFrom_1_174 {g : Nat → Int32} (μ : pm_Mm) (hX : lr_Rl μ.1 174 g) (hn : lr_n g 289 ≤ 30) : pm_CT mi_X4_copyFrom [.ref 26, .ref 199] μ (fun v μ2 => v = none ∧ μ2.2 = μ.2 ∧ (∀ i, (i < 26 ∨ 38 < i) → μ2.1 i = μ.1 i) ∧ lr_Rl μ2.1 1 g) pm_NX := by
  refine pm_CT_of (lo := [some (.ref 26), some (.ref 199)]) (by decide +kernel) rfl rfl (by intro v hv; simp at hv; rcases hv with rfl | rfl <;> rfl) (Nat.le_of_ble_eq_true rfl) rfl ?_
  refine pm_bl [(.aload_n 0, 1, 0, 0, 0), (.aload_n 1, 1, 1, 0, 0), (.getfield 9, 3, 4, 0, 0), (.putfield 9, 3, 4, 0, 0), (.aload_n 0, 1, 0, 0, 0), (.aload_n 1, 1, 1, 0, 0), (.getfield 15, 3, 4, 1, 0), (.putfield 15, 3, 4, 1, 0), (.aload_n 1, 1, 1, 0, 0), (.getfield 18, 3, 4, 2, 0), (.aload_n 0, 1, 0, 0, 0), (.getfield 18, 3, 4, 2, 0)] (pc1 := 24) (lo1 := [some (.ref 26), some (.ref 199)]) (st1 := [.ref 27, .ref 200]) (μ1 := pm_set (pm_set μ 26 0 (μ.1 199 0)) 26 1 ((pm_set μ 26 0 (μ.1 199 0)).1 199 1)) (vc := True) rfl (by decide +kernel) rfl trivial ?_
  rw [show (pm_set μ 26 0 (μ.1 199 0)).1 199 1 = μ.1 199 1 from by simp [pm_set]]
  refine pm_callSN2 mi_X9_copyRow (ix := 55) (host := RX9) (kc2 := 0) (ks2 := 0) (As := [.ref 200, .ref 27]) (rest := []) (c_X9_copyRow (a := 200) (b := 27) (n := 30) (pm_set (pm_set μ 26 0 (μ.1 199 0)) 26 1 (μ.1 199 1)) rfl rfl (by decide)) cal_X9_copyRow (by decide +kernel) (by decide +kernel) (by decide +kernel) rfl rfl (Nat.le_of_ble_eq_true rfl) (by decide) (by decide) ?_
  rintro _ μ1 ⟨rfl, e1⟩
  show pm_V _ _ _ _ 27 _ [] _
  refine pm_bl [(.aload_n 1, 1, 1, 0, 0), (.getfield 22, 3, 4, 3, 0), (.aload_n 0, 1, 0, 0, 0), (.getfield 22, 3, 4, 3, 0)] (pc1 := 35) (lo1 := [some (.ref 26), some (.ref 199)]) (st1 := [.ref 28, .ref 201]) (μ1 := μ1) (vc := True) rfl (by decide +kernel) rfl trivial ?_
  refine pm_callSN2 mi_X9_copyRow (ix := 55) (host := RX9) (kc2 := 0) (ks2 := 0) (As := [.ref 201, .ref 28]) (rest := []) (c_X9_copyRow (a := 201) (b := 28) (n := 30) μ1 rfl rfl (by decide)) cal_X9_copyRow (by decide +kernel) (by decide +kernel) (by decide +kernel) rfl rfl (Nat.le_of_ble_eq_true rfl) (by decide) (by decide) ?_
  rintro _ μ2 ⟨rfl, e2⟩
  show pm_V _ _ _ _ 38 _ [] _
  refine pm_bl [(.aload_n 1, 1, 1, 0, 0), (.getfield 25, 3, 4, 4, 0), (.aload_n 0, 1, 0, 0, 0), (.getfield 25, 3, 4, 4, 0)] (pc1 := 46) (lo1 := [some (.ref 26), some (.ref 199)]) (st1 := [.ref 29, .ref 202]) (μ1 := μ2) (vc := True) rfl (by decide +kernel) rfl trivial ?_
  refine pm_callSN2 mi_X9_copyRow (ix := 55) (host := RX9) (kc2 := 0) (ks2 := 0) (As := [.ref 202, .ref 29]) (rest := []) (c_X9_copyRow (a := 202) (b := 29) (n := 30) μ2 rfl rfl (by decide)) cal_X9_copyRow (by decide +kernel) (by decide +kernel) (by decide +kernel) rfl rfl (Nat.le_of_ble_eq_true rfl) (by decide) (by decide) ?_
  rintro _ μ3 ⟨rfl, e3⟩
  show pm_V _ _ _ _ 49 _ [] _
  refine pm_bl [(.aload_n 1, 1, 1, 0, 0), (.getfield 28, 3, 4, 5, 0), (.aload_n 0, 1, 0, 0, 0), (.getfield 28, 3, 4, 5, 0)] (pc1 := 57) (lo1 := [some (.ref 26), some (.ref 199)]) (st1 := [.ref 30, .ref 203]) (μ1 := μ3) (vc := True) rfl (by decide +kernel) rfl trivial ?_
  refine pm_callSN2 mi_X9_copyRow (ix := 55) (host := RX9) (kc2 := 0) (ks2 := 0) (As := [.ref 203, .ref 30]) (rest := []) (c_X9_copyRow (a := 203) (b := 30) (n := 30) μ3 rfl rfl (by decide)) cal_X9_copyRow (by decide +kernel) (by decide +kernel) (by decide +kernel) rfl rfl (Nat.le_of_ble_eq_true rfl) (by decide) (by decide) ?_
  rintro _ μ4 ⟨rfl, e4⟩
  show pm_V _ _ _ _ 60 _ [] _
  refine pm_bl [(.aload_n 1, 1, 1, 0, 0), (.getfield 31, 3, 4, 6, 0), (.aload_n 0, 1, 0, 0, 0), (.getfield 31, 3, 4, 6, 0)] (pc1 := 68) (lo1 := [some (.ref 26), some (.ref 199)]) (st1 := [.ref 31, .ref 204]) (μ1 := μ4) (vc := True) rfl (by decide +kernel) rfl trivial ?_
  refine pm_callSN2 mi_X9_copyRow (ix := 55) (host := RX9) (kc2 := 0) (ks2 := 0) (As := [.ref 204, .ref 31]) (rest := []) (c_X9_copyRow (a := 204) (b := 31) (n := 30) μ4 rfl rfl (by decide)) cal_X9_copyRow (by decide +kernel) (by decide +kernel) (by decide +kernel) rfl rfl (Nat.le_of_ble_eq_true rfl) (by decide) (by decide) ?_
  rintro _ μ5 ⟨rfl, e5⟩
  show pm_V _ _ _ _ 71 _ [] _
  refine pm_bl [(.aload_n 1, 1, 1, 0, 0), (.getfield 34, 3, 4, 7, 0), (.aload_n 0, 1, 0, 0, 0), (.getfield 34, 3, 4, 7, 0)] (pc1 := 79) (lo1 := [some (.ref 26), some (.ref 199)]) (st1 := [.ref 32, .ref 205]) (μ1 := μ5) (vc := True) rfl (by decide +kernel) rfl trivial ?_
  refine pm_callSN2 mi_X9_copyRow (ix := 55) (host := RX9) (kc2 := 0) (ks2 := 0) (As := [.ref 205, .ref 32]) (rest := []) (c_X9_copyRow (a := 205) (b := 32) (n := 30) μ5 rfl rfl (by decide)) cal_X9_copyRow (by decide +kernel) (by decide +kernel) (by decide +kernel) rfl rfl (Nat.le_of_ble_eq_true rfl) (by decide) (by decide) ?_
  rintro _ μ6 ⟨rfl, e6⟩
  show pm_V _ _ _ _ 82 _ [] _
  refine pm_bl [(.aload_n 1, 1, 1, 0, 0), (.getfield 37, 3, 4, 8, 0), (.aload_n 0, 1, 0, 0, 0), (.getfield 37, 3, 4, 8, 0)] (pc1 := 90) (lo1 := [some (.ref 26), some (.ref 199)]) (st1 := [.ref 33, .ref 206]) (μ1 := μ6) (vc := True) rfl (by decide +kernel) rfl trivial ?_
  refine pm_callSN2 mi_X9_copyRow (ix := 55) (host := RX9) (kc2 := 0) (ks2 := 0) (As := [.ref 206, .ref 33]) (rest := []) (c_X9_copyRow (a := 206) (b := 33) (n := 30) μ6 rfl rfl (by decide)) cal_X9_copyRow (by decide +kernel) (by decide +kernel) (by decide +kernel) rfl rfl (Nat.le_of_ble_eq_true rfl) (by decide) (by decide) ?_
  rintro _ μ7 ⟨rfl, e7⟩
  show pm_V _ _ _ _ 93 _ [] _
  refine pm_bl [(.aload_n 1, 1, 1, 0, 0), (.getfield 40, 3, 4, 9, 0), (.aload_n 0, 1, 0, 0, 0), (.getfield 40, 3, 4, 9, 0)] (pc1 := 101) (lo1 := [some (.ref 26), some (.ref 199)]) (st1 := [.ref 34, .ref 207]) (μ1 := μ7) (vc := True) rfl (by decide +kernel) rfl trivial ?_
  refine pm_callSN2 mi_X9_copyRow (ix := 55) (host := RX9) (kc2 := 0) (ks2 := 0) (As := [.ref 207, .ref 34]) (rest := []) (c_X9_copyRow (a := 207) (b := 34) (n := 30) μ7 rfl rfl (by decide)) cal_X9_copyRow (by decide +kernel) (by decide +kernel) (by decide +kernel) rfl rfl (Nat.le_of_ble_eq_true rfl) (by decide) (by decide) ?_
  rintro _ μ8 ⟨rfl, e8⟩
  show pm_V _ _ _ _ 104 _ [] _
  refine pm_bl [(.aload_n 1, 1, 1, 0, 0), (.getfield 43, 3, 4, 10, 0), (.aload_n 0, 1, 0, 0, 0), (.getfield 43, 3, 4, 10, 0)] (pc1 := 112) (lo1 := [some (.ref 26), some (.ref 199)]) (st1 := [.ref 35, .ref 208]) (μ1 := μ8) (vc := True) rfl (by decide +kernel) rfl trivial ?_
  refine pm_callSN2 mi_X9_copyRow (ix := 55) (host := RX9) (kc2 := 0) (ks2 := 0) (As := [.ref 208, .ref 35]) (rest := []) (c_X9_copyRow (a := 208) (b := 35) (n := 30) μ8 rfl rfl (by decide)) cal_X9_copyRow (by decide +kernel) (by decide +kernel) (by decide +kernel) rfl rfl (Nat.le_of_ble_eq_true rfl) (by decide) (by decide) ?_
  rintro _ μ9 ⟨rfl, e9⟩
  show pm_V _ _ _ _ 115 _ [] _
  refine pm_bl [(.aload_n 1, 1, 1, 0, 0), (.getfield 46, 3, 4, 11, 0), (.aload_n 0, 1, 0, 0, 0), (.getfield 46, 3, 4, 11, 0)] (pc1 := 123) (lo1 := [some (.ref 26), some (.ref 199)]) (st1 := [.ref 36, .ref 209]) (μ1 := μ9) (vc := True) rfl (by decide +kernel) rfl trivial ?_
  refine pm_callSN2 mi_X9_copyRow (ix := 55) (host := RX9) (kc2 := 0) (ks2 := 0) (As := [.ref 209, .ref 36]) (rest := []) (c_X9_copyRow (a := 209) (b := 36) (n := 30) μ9 rfl rfl (by decide)) cal_X9_copyRow (by decide +kernel) (by decide +kernel) (by decide +kernel) rfl rfl (Nat.le_of_ble_eq_true rfl) (by decide) (by decide) ?_
  rintro _ μ10 ⟨rfl, e10⟩
  show pm_V _ _ _ _ 126 _ [] _
  refine pm_bl [(.aload_n 1, 1, 1, 0, 0), (.getfield 49, 3, 4, 12, 0), (.aload_n 0, 1, 0, 0, 0), (.getfield 49, 3, 4, 12, 0)] (pc1 := 134) (lo1 := [some (.ref 26), some (.ref 199)]) (st1 := [.ref 37, .ref 210]) (μ1 := μ10) (vc := True) rfl (by decide +kernel) rfl trivial ?_
  refine pm_callSN2 mi_X9_copyRow (ix := 55) (host := RX9) (kc2 := 0) (ks2 := 0) (As := [.ref 210, .ref 37]) (rest := []) (c_X9_copyRow (a := 210) (b := 37) (n := 30) μ10 rfl rfl (by decide)) cal_X9_copyRow (by decide +kernel) (by decide +kernel) (by decide +kernel) rfl rfl (Nat.le_of_ble_eq_true rfl) (by decide) (by decide) ?_
  rintro _ μ11 ⟨rfl, e11⟩
  show pm_V _ _ _ _ 137 _ [] _
  refine pm_bl [(.aload_n 1, 1, 1, 0, 0), (.getfield 52, 3, 4, 13, 0), (.aload_n 0, 1, 0, 0, 0), (.getfield 52, 3, 4, 13, 0)] (pc1 := 145) (lo1 := [some (.ref 26), some (.ref 199)]) (st1 := [.ref 38, .ref 211]) (μ1 := μ11) (vc := True) rfl (by decide +kernel) rfl trivial ?_
  refine pm_callSN2 mi_X9_copyRow (ix := 55) (host := RX9) (kc2 := 0) (ks2 := 0) (As := [.ref 211, .ref 38]) (rest := []) (c_X9_copyRow (a := 211) (b := 38) (n := 30) μ11 rfl rfl (by decide)) cal_X9_copyRow (by decide +kernel) (by decide +kernel) (by decide +kernel) rfl rfl (Nat.le_of_ble_eq_true rfl) (by decide) (by decide) ?_
  rintro _ μ12 ⟨rfl, e12⟩
  show pm_V _ _ _ _ 148 _ [] _
  exact pm_vret rfl (by decide) (by decide) (by decide +kernel) (by
    subst e1; subst e2; subst e3; subst e4; subst e5; subst e6; subst e7; subst e8; subst e9; subst e10; subst e11; subst e12
    refine ⟨rfl, rfl, fun i hi => by rw [pm_row_off (by omega), pm_row_off (by omega), pm_row_off (by omega), pm_row_off (by omega), pm_row_off (by omega), pm_row_off (by omega), pm_row_off (by omega), pm_row_off (by omega), pm_row_off (by omega), pm_row_off (by omega), pm_row_off (by omega), pm_row_off (by omega), pm_set_off (by omega), pm_set_off (by omega)], lr_Rl.mv (b := 174) (b2 := 1) hX hn (by simp only [Nat.reduceAdd]; rw [pm_row_off (by decide), pm_row_off (by decide), pm_row_off (by decide), pm_row_off (by decide), pm_row_off (by decide), pm_row_off (by decide), pm_row_off (by decide), pm_row_off (by decide), pm_row_off (by decide), pm_row_off (by decide), pm_row_off (by decide), pm_row_off (by decide), pm_set_miss (Or.inr (by decide)), pm_set_hit]) (by simp only [Nat.reduceAdd]; rw [pm_row_off (by decide), pm_row_off (by decide), pm_row_off (by decide), pm_row_off (by decide), pm_row_off (by decide), pm_row_off (by decide), pm_row_off (by decide), pm_row_off (by decide), pm_row_off (by decide), pm_row_off (by decide), pm_row_off (by decide), pm_row_off (by decide), pm_set_hit]) (fun k i h1 h2 h3 => ?_) (fun _ _ _ => rfl) rfl⟩
    rcases (show k = 26 ∨ k = 27 ∨ k = 28 ∨ k = 29 ∨ k = 30 ∨ k = 31 ∨ k = 32 ∨ k = 33 ∨ k = 34 ∨ k = 35 ∨ k = 36 ∨ k = 37 by omega) with rfl | rfl | rfl | rfl | rfl | rfl | rfl | rfl | rfl | rfl | rfl | rfl
    · simp only [Nat.reduceAdd]; rw [pm_row_off (by decide), pm_row_off (by decide), pm_row_off (by decide), pm_row_off (by decide), pm_row_off (by decide), pm_row_off (by decide), pm_row_off (by decide), pm_row_off (by decide), pm_row_off (by decide), pm_row_off (by decide), pm_row_off (by decide), pm_row_at]; unfold va_cpy; rw [if_pos (by omega), pm_set_off (by decide), pm_set_off (by decide), show 0 + (i - 0) = i from by omega]
    · simp only [Nat.reduceAdd]; rw [pm_row_off (by decide), pm_row_off (by decide), pm_row_off (by decide), pm_row_off (by decide), pm_row_off (by decide), pm_row_off (by decide), pm_row_off (by decide), pm_row_off (by decide), pm_row_off (by decide), pm_row_off (by decide), pm_row_at]; unfold va_cpy; rw [if_pos (by omega), pm_row_off (by decide), pm_set_off (by decide), pm_set_off (by decide), show 0 + (i - 0) = i from by omega]
    · simp only [Nat.reduceAdd]; rw [pm_row_off (by decide), pm_row_off (by decide), pm_row_off (by decide), pm_row_off (by decide), pm_row_off (by decide), pm_row_off (by decide), pm_row_off (by decide), pm_row_off (by decide), pm_row_off (by decide), pm_row_at]; unfold va_cpy; rw [if_pos (by omega), pm_row_off (by decide), pm_row_off (by decide), pm_set_off (by decide), pm_set_off (by decide), show 0 + (i - 0) = i from by omega]
    · simp only [Nat.reduceAdd]; rw [pm_row_off (by decide), pm_row_off (by decide), pm_row_off (by decide), pm_row_off (by decide), pm_row_off (by decide), pm_row_off (by decide), pm_row_off (by decide), pm_row_off (by decide), pm_row_at]; unfold va_cpy; rw [if_pos (by omega), pm_row_off (by decide), pm_row_off (by decide), pm_row_off (by decide), pm_set_off (by decide), pm_set_off (by decide), show 0 + (i - 0) = i from by omega]
    · simp only [Nat.reduceAdd]; rw [pm_row_off (by decide), pm_row_off (by decide), pm_row_off (by decide), pm_row_off (by decide), pm_row_off (by decide), pm_row_off (by decide), pm_row_off (by decide), pm_row_at]; unfold va_cpy; rw [if_pos (by omega), pm_row_off (by decide), pm_row_off (by decide), pm_row_off (by decide), pm_row_off (by decide), pm_set_off (by decide), pm_set_off (by decide), show 0 + (i - 0) = i from by omega]
    · simp only [Nat.reduceAdd]; rw [pm_row_off (by decide), pm_row_off (by decide), pm_row_off (by decide), pm_row_off (by decide), pm_row_off (by decide), pm_row_off (by decide), pm_row_at]; unfold va_cpy; rw [if_pos (by omega), pm_row_off (by decide), pm_row_off (by decide), pm_row_off (by decide), pm_row_off (by decide), pm_row_off (by decide), pm_set_off (by decide), pm_set_off (by decide), show 0 + (i - 0) = i from by omega]
    · simp only [Nat.reduceAdd]; rw [pm_row_off (by decide), pm_row_off (by decide), pm_row_off (by decide), pm_row_off (by decide), pm_row_off (by decide), pm_row_at]; unfold va_cpy; rw [if_pos (by omega), pm_row_off (by decide), pm_row_off (by decide), pm_row_off (by decide), pm_row_off (by decide), pm_row_off (by decide), pm_row_off (by decide), pm_set_off (by decide), pm_set_off (by decide), show 0 + (i - 0) = i from by omega]
    · simp only [Nat.reduceAdd]; rw [pm_row_off (by decide), pm_row_off (by decide), pm_row_off (by decide), pm_row_off (by decide), pm_row_at]; unfold va_cpy; rw [if_pos (by omega), pm_row_off (by decide), pm_row_off (by decide), pm_row_off (by decide), pm_row_off (by decide), pm_row_off (by decide), pm_row_off (by decide), pm_row_off (by decide), pm_set_off (by decide), pm_set_off (by decide), show 0 + (i - 0) = i from by omega]
    · simp only [Nat.reduceAdd]; rw [pm_row_off (by decide), pm_row_off (by decide), pm_row_off (by decide), pm_row_at]; unfold va_cpy; rw [if_pos (by omega), pm_row_off (by decide), pm_row_off (by decide), pm_row_off (by decide), pm_row_off (by decide), pm_row_off (by decide), pm_row_off (by decide), pm_row_off (by decide), pm_row_off (by decide), pm_set_off (by decide), pm_set_off (by decide), show 0 + (i - 0) = i from by omega]
    · simp only [Nat.reduceAdd]; rw [pm_row_off (by decide), pm_row_off (by decide), pm_row_at]; unfold va_cpy; rw [if_pos (by omega), pm_row_off (by decide), pm_row_off (by decide), pm_row_off (by decide), pm_row_off (by decide), pm_row_off (by decide), pm_row_off (by decide), pm_row_off (by decide), pm_row_off (by decide), pm_row_off (by decide), pm_set_off (by decide), pm_set_off (by decide), show 0 + (i - 0) = i from by omega]
    · simp only [Nat.reduceAdd]; rw [pm_row_off (by decide), pm_row_at]; unfold va_cpy; rw [if_pos (by omega), pm_row_off (by decide), pm_row_off (by decide), pm_row_off (by decide), pm_row_off (by decide), pm_row_off (by decide), pm_row_off (by decide), pm_row_off (by decide), pm_row_off (by decide), pm_row_off (by decide), pm_row_off (by decide), pm_set_off (by decide), pm_set_off (by decide), show 0 + (i - 0) = i from by omega]
    · simp only [Nat.reduceAdd]; rw [pm_row_at]; unfold va_cpy; rw [if_pos (by omega), pm_row_off (by decide), pm_row_off (by decide), pm_row_off (by decide), pm_row_off (by decide), pm_row_off (by decide), pm_row_off (by decide), pm_row_off (by decide), pm_row_off (by decide), pm_row_off (by decide), pm_row_off (by decide), pm_row_off (by decide), pm_set_off (by decide), pm_set_off (by decide), show 0 + (i - 0) = i from by omega])
set_option maxHeartbeats 4000000 in
set_option maxRecDepth 100000 in
theorem c_X5_copyFrom_1_174 {g : Nat → Int32} (μ : pm_Mm) (hR : lr_Rel μ.1 174 g) (hB : lr_B g) : pm_CT mi_X5_copyFrom [.ref 1, .ref 174] μ (fun v μ2 => v = none ∧ μ2.2 = μ.2 ∧ (∀ i, (i < 1 ∨ 39 < i) → μ2.1 i = μ.1 i) ∧ lr_Rel μ2.1 1 g) pm_NX := by
  refine pm_CT_of (lo := [some (.ref 1), some (.ref 174)]) (by decide +kernel) rfl rfl (by intro v hv; simp at hv; rcases hv with rfl | rfl <;> rfl) (Nat.le_of_ble_eq_true rfl) rfl ?_
  obtain ⟨hm1, hm3, hm2, hm4, hm5, hm6⟩ := id hB
  refine pm_bl [(.aload_n 0, 1, 0, 0, 0), (.getfield 12, 3, 5, 0, 0), (.aload_n 1, 1, 1, 0, 0), (.getfield 12, 3, 5, 0, 0)] (pc1 := 8) (lo1 := [some (.ref 1), some (.ref 174)]) (st1 := [.ref 175, .ref 2]) (μ1 := μ) (vc := True) rfl (by decide +kernel) rfl trivial ?_
  refine pm_callV2 mi_X3_copyFrom (ix := 61) (b := 2) (ci := 3) (kc2 := 0) (ks2 := 0) (As := [.ref 175]) (rest := []) (c_X3_copyFrom_1_174 μ hR.2.1 hm1) cal_X3_copyFrom lk5_61 (by decide +kernel) rfl (by decide +kernel) rfl rfl rfl rfl (Nat.le_of_ble_eq_true rfl) (by decide) (by decide) (fun _ _ h9 => h9.elim) ?_
  rintro _ μ1 ⟨rfl, x1, f1, r1⟩
  show pm_V _ _ _ _ 11 _ [] _
  refine pm_bl [(.aload_n 0, 1, 0, 0, 0), (.getfield 21, 3, 5, 1, 0), (.aload_n 1, 1, 1, 0, 0), (.getfield 21, 3, 5, 1, 0)] (pc1 := 19) (lo1 := [some (.ref 1), some (.ref 174)]) (st1 := [.ref 178, .ref 5]) (μ1 := μ1) (vc := True) rfl (by decide +kernel) rfl trivial ?_
  refine pm_callV2 mi_X6_copyFrom (ix := 65) (b := 5) (ci := 6) (kc2 := 0) (ks2 := 0) (As := [.ref 178]) (rest := []) (c_X6_copyFrom_1_174 μ1 (lr_Rp.st (b := 174) hR.2.2.1 hm3 (fun k h1 h2 => by rw [f1 _ (by omega)]) (fun _ _ _ => rfl)) hm3) cal_X6_copyFrom lk5_65 (by decide +kernel) rfl (by decide +kernel) rfl rfl rfl rfl (Nat.le_of_ble_eq_true rfl) (by decide) (by decide) (fun _ _ h9 => h9.elim) ?_
  rintro _ μ2 ⟨rfl, x2, f2, r2⟩
  show pm_V _ _ _ _ 22 _ [] _
  refine pm_bl [(.aload_n 0, 1, 0, 0, 0), (.getfield 28, 3, 5, 2, 0), (.aload_n 1, 1, 1, 0, 0), (.getfield 28, 3, 5, 2, 0)] (pc1 := 30) (lo1 := [some (.ref 1), some (.ref 174)]) (st1 := [.ref 183, .ref 10]) (μ1 := μ2) (vc := True) rfl (by decide +kernel) rfl trivial ?_
  refine pm_callV2 mi_X8_copyFrom (ix := 68) (b := 10) (ci := 8) (kc2 := 0) (ks2 := 0) (As := [.ref 183]) (rest := []) (c_X8_copyFrom_1_174 μ2 (lr_Rw.st (b := 174) hR.2.2.2.1 hm2 (fun k h1 h2 => by rw [f2 _ (by omega), f1 _ (by omega)]) (fun _ _ _ => rfl)) hm2) cal_X8_copyFrom lk5_68 (by decide +kernel) rfl (by decide +kernel) rfl rfl rfl rfl (Nat.le_of_ble_eq_true rfl) (by decide) (by decide) (fun _ _ h9 => h9.elim) ?_
  rintro _ μ3 ⟨rfl, x3, f3, r3⟩
  show pm_V _ _ _ _ 33 _ [] _
  refine pm_bl [(.aload_n 0, 1, 0, 0, 0), (.getfield 35, 3, 5, 3, 0), (.aload_n 1, 1, 1, 0, 0), (.getfield 35, 3, 5, 3, 0)] (pc1 := 41) (lo1 := [some (.ref 1), some (.ref 174)]) (st1 := [.ref 189, .ref 16]) (μ1 := μ3) (vc := True) rfl (by decide +kernel) rfl trivial ?_
  refine pm_callV2 mi_X7_copyFrom (ix := 71) (b := 16) (ci := 7) (kc2 := 0) (ks2 := 0) (As := [.ref 189]) (rest := []) (c_X7_copyFrom_1_174 μ3 (lr_Rr.st (b := 174) hR.2.2.2.2.1 hm4 (fun k h1 h2 => by rw [f3 _ (by omega), f2 _ (by omega), f1 _ (by omega)]) (fun _ _ _ => rfl)) hm4) cal_X7_copyFrom lk5_71 (by decide +kernel) rfl (by decide +kernel) rfl rfl rfl rfl (Nat.le_of_ble_eq_true rfl) (by decide) (by decide) (fun _ _ h9 => h9.elim) ?_
  rintro _ μ4 ⟨rfl, x4, f4, r4⟩
  show pm_V _ _ _ _ 44 _ [] _
  refine pm_bl [(.aload_n 0, 1, 0, 0, 0), (.getfield 42, 3, 5, 4, 0), (.aload_n 1, 1, 1, 0, 0), (.getfield 42, 3, 5, 4, 0)] (pc1 := 52) (lo1 := [some (.ref 1), some (.ref 174)]) (st1 := [.ref 195, .ref 22]) (μ1 := μ4) (vc := True) rfl (by decide +kernel) rfl trivial ?_
  refine pm_callV2 mi_X0_copyFrom (ix := 74) (b := 22) (ci := 0) (kc2 := 0) (ks2 := 0) (As := [.ref 195]) (rest := []) (c_X0_copyFrom_1_174 μ4 (lr_Ra.st (b := 174) hR.2.2.2.2.2.1 hm5 (fun k h1 h2 => by rw [f4 _ (by omega), f3 _ (by omega), f2 _ (by omega), f1 _ (by omega)]) (fun _ _ _ => rfl)) hm5) cal_X0_copyFrom lk5_74 (by decide +kernel) rfl (by decide +kernel) rfl rfl rfl rfl (Nat.le_of_ble_eq_true rfl) (by decide) (by decide) (fun _ _ h9 => h9.elim) ?_
  rintro _ μ5 ⟨rfl, x5, f5, r5⟩
  show pm_V _ _ _ _ 55 _ [] _
  refine pm_bl [(.aload_n 0, 1, 0, 0, 0), (.getfield 49, 3, 5, 5, 0), (.aload_n 1, 1, 1, 0, 0), (.getfield 49, 3, 5, 5, 0)] (pc1 := 63) (lo1 := [some (.ref 1), some (.ref 174)]) (st1 := [.ref 199, .ref 26]) (μ1 := μ5) (vc := True) rfl (by decide +kernel) rfl trivial ?_
  refine pm_callV2 mi_X4_copyFrom (ix := 77) (b := 26) (ci := 4) (kc2 := 0) (ks2 := 0) (As := [.ref 199]) (rest := []) (c_X4_copyFrom_1_174 μ5 (lr_Rl.st (b := 174) hR.2.2.2.2.2.2 hm6 (fun k h1 h2 => by rw [f5 _ (by omega), f4 _ (by omega), f3 _ (by omega), f2 _ (by omega), f1 _ (by omega)]) rfl (fun _ _ _ => rfl)) hm6) cal_X4_copyFrom lk5_77 (by decide +kernel) rfl (by decide +kernel) rfl rfl rfl rfl (Nat.le_of_ble_eq_true rfl) (by decide) (by decide) (fun _ _ h9 => h9.elim) ?_
  rintro _ μ6 ⟨rfl, x6, f6, r6⟩
  show pm_V _ _ _ _ 66 _ [] _
  refine pm_bl [(.aload_n 0, 1, 0, 0, 0), (.aload_n 1, 1, 1, 0, 0), (.getfield 53, 3, 5, 6, 0), (.putfield 53, 3, 5, 6, 0)] (pc1 := 74) (lo1 := [some (.ref 1), some (.ref 174)]) (st1 := []) (μ1 := pm_set μ6 1 6 (μ6.1 174 6)) (vc := True) rfl (by decide +kernel) rfl trivial ?_
  exact pm_vret rfl (by decide) (by decide) (by decide +kernel) (⟨rfl, (x6.trans (x5.trans (x4.trans (x3.trans (x2.trans x1))))), fun i hi => by rw [pm_set_off (by omega), f6 _ (by omega), f5 _ (by omega), f4 _ (by omega), f3 _ (by omega), f2 _ (by omega), f1 _ (by omega)], by rw [pm_set_hit, f6 _ (by omega), f5 _ (by omega), f4 _ (by omega), f3 _ (by omega), f2 _ (by omega), f1 _ (by omega)]; exact hR.1, lr_Rh.st (b := 1) r1 hm1 (fun k h1 h2 => by rw [pm_set_off (by omega), f6 _ (by omega), f5 _ (by omega), f4 _ (by omega), f3 _ (by omega), f2 _ (by omega)]) (fun _ _ _ => rfl), lr_Rp.st (b := 1) r2 hm3 (fun k h1 h2 => by rw [pm_set_off (by omega), f6 _ (by omega), f5 _ (by omega), f4 _ (by omega), f3 _ (by omega)]) (fun _ _ _ => rfl), lr_Rw.st (b := 1) r3 hm2 (fun k h1 h2 => by rw [pm_set_off (by omega), f6 _ (by omega), f5 _ (by omega), f4 _ (by omega)]) (fun _ _ _ => rfl), lr_Rr.st (b := 1) r4 hm4 (fun k h1 h2 => by rw [pm_set_off (by omega), f6 _ (by omega), f5 _ (by omega)]) (fun _ _ _ => rfl), lr_Ra.st (b := 1) r5 hm5 (fun k h1 h2 => by rw [pm_set_off (by omega), f6 _ (by omega)]) (fun _ _ _ => rfl), lr_Rl.st (b := 1) r6 hm6 (fun k h1 h2 => by rw [pm_set_off (by omega)]) rfl (fun _ _ _ => rfl)⟩)
set_option maxHeartbeats 4000000 in
set_option maxRecDepth 100000 in
theorem c_X3_copyFrom_1_213 {g : Nat → Int32} (μ : pm_Mm) (hX : lr_Rh μ.1 213 g) (hn : lr_n g 2 ≤ 16) : pm_CT mi_X3_copyFrom [.ref 2, .ref 214] μ (fun v μ2 => v = none ∧ μ2.2 = μ.2 ∧ (∀ i, (i < 2 ∨ 4 < i) → μ2.1 i = μ.1 i) ∧ lr_Rh μ2.1 1 g) pm_NX := by
  refine pm_CT_of (lo := [some (.ref 2), some (.ref 214)]) (by decide +kernel) rfl rfl (by intro v hv; simp at hv; rcases hv with rfl | rfl <;> rfl) (Nat.le_of_ble_eq_true rfl) rfl ?_
  refine pm_bl [(.aload_n 0, 1, 0, 0, 0), (.aload_n 1, 1, 1, 0, 0), (.getfield 9, 3, 3, 0, 0), (.putfield 9, 3, 3, 0, 0), (.aload_n 1, 1, 1, 0, 0), (.getfield 15, 3, 3, 1, 0), (.aload_n 0, 1, 0, 0, 0), (.getfield 15, 3, 3, 1, 0)] (pc1 := 16) (lo1 := [some (.ref 2), some (.ref 214)]) (st1 := [.ref 3, .ref 215]) (μ1 := pm_set μ 2 0 (μ.1 214 0)) (vc := True) rfl (by decide +kernel) rfl trivial ?_
  refine pm_callSN2 mi_X9_copyRow (ix := 22) (host := RX9) (kc2 := 0) (ks2 := 0) (As := [.ref 215, .ref 3]) (rest := []) (c_X9_copyRow (a := 215) (b := 3) (n := 16) (pm_set μ 2 0 (μ.1 214 0)) rfl rfl (by decide)) cal_X9_copyRow (by decide +kernel) (by decide +kernel) (by decide +kernel) rfl rfl (Nat.le_of_ble_eq_true rfl) (by decide) (by decide) ?_
  rintro _ μ1 ⟨rfl, e1⟩
  show pm_V _ _ _ _ 19 _ [] _
  refine pm_bl [(.aload_n 1, 1, 1, 0, 0), (.getfield 19, 3, 3, 2, 0), (.aload_n 0, 1, 0, 0, 0), (.getfield 19, 3, 3, 2, 0)] (pc1 := 27) (lo1 := [some (.ref 2), some (.ref 214)]) (st1 := [.ref 4, .ref 216]) (μ1 := μ1) (vc := True) rfl (by decide +kernel) rfl trivial ?_
  refine pm_callSN2 mi_X9_copyRow (ix := 22) (host := RX9) (kc2 := 0) (ks2 := 0) (As := [.ref 216, .ref 4]) (rest := []) (c_X9_copyRow (a := 216) (b := 4) (n := 16) μ1 rfl rfl (by decide)) cal_X9_copyRow (by decide +kernel) (by decide +kernel) (by decide +kernel) rfl rfl (Nat.le_of_ble_eq_true rfl) (by decide) (by decide) ?_
  rintro _ μ2 ⟨rfl, e2⟩
  show pm_V _ _ _ _ 30 _ [] _
  exact pm_vret rfl (by decide) (by decide) (by decide +kernel) (by
    subst e1; subst e2
    refine ⟨rfl, rfl, fun i hi => by rw [pm_row_off (by omega), pm_row_off (by omega), pm_set_off (by omega)], lr_Rh.mv (b := 213) (b2 := 1) hX hn (by simp only [Nat.reduceAdd]; rw [pm_row_off (by decide), pm_row_off (by decide), pm_set_hit]) (fun k i h1 h2 h3 => ?_) (fun _ _ _ => rfl)⟩
    rcases (show k = 2 ∨ k = 3 by omega) with rfl | rfl
    · simp only [Nat.reduceAdd]; rw [pm_row_off (by decide), pm_row_at]; unfold va_cpy; rw [if_pos (by omega), pm_set_off (by decide), show 0 + (i - 0) = i from by omega]
    · simp only [Nat.reduceAdd]; rw [pm_row_at]; unfold va_cpy; rw [if_pos (by omega), pm_row_off (by decide), pm_set_off (by decide), show 0 + (i - 0) = i from by omega])
set_option maxHeartbeats 4000000 in
set_option maxRecDepth 100000 in
theorem c_X6_copyFrom_1_213 {g : Nat → Int32} (μ : pm_Mm) (hX : lr_Rp μ.1 213 g) (hn : lr_n g 35 ≤ 20) : pm_CT mi_X6_copyFrom [.ref 5, .ref 217] μ (fun v μ2 => v = none ∧ μ2.2 = μ.2 ∧ (∀ i, (i < 5 ∨ 9 < i) → μ2.1 i = μ.1 i) ∧ lr_Rp μ2.1 1 g) pm_NX := by
  refine pm_CT_of (lo := [some (.ref 5), some (.ref 217)]) (by decide +kernel) rfl rfl (by intro v hv; simp at hv; rcases hv with rfl | rfl <;> rfl) (Nat.le_of_ble_eq_true rfl) rfl ?_
  refine pm_bl [(.aload_n 0, 1, 0, 0, 0), (.aload_n 1, 1, 1, 0, 0), (.getfield 9, 3, 6, 0, 0), (.putfield 9, 3, 6, 0, 0), (.aload_n 1, 1, 1, 0, 0), (.getfield 15, 3, 6, 1, 0), (.aload_n 0, 1, 0, 0, 0), (.getfield 15, 3, 6, 1, 0)] (pc1 := 16) (lo1 := [some (.ref 5), some (.ref 217)]) (st1 := [.ref 6, .ref 218]) (μ1 := pm_set μ 5 0 (μ.1 217 0)) (vc := True) rfl (by decide +kernel) rfl trivial ?_
  refine pm_callSN2 mi_X9_copyRow (ix := 28) (host := RX9) (kc2 := 0) (ks2 := 0) (As := [.ref 218, .ref 6]) (rest := []) (c_X9_copyRow (a := 218) (b := 6) (n := 20) (pm_set μ 5 0 (μ.1 217 0)) rfl rfl (by decide)) cal_X9_copyRow (by decide +kernel) (by decide +kernel) (by decide +kernel) rfl rfl (Nat.le_of_ble_eq_true rfl) (by decide) (by decide) ?_
  rintro _ μ1 ⟨rfl, e1⟩
  show pm_V _ _ _ _ 19 _ [] _
  refine pm_bl [(.aload_n 1, 1, 1, 0, 0), (.getfield 19, 3, 6, 2, 0), (.aload_n 0, 1, 0, 0, 0), (.getfield 19, 3, 6, 2, 0)] (pc1 := 27) (lo1 := [some (.ref 5), some (.ref 217)]) (st1 := [.ref 7, .ref 219]) (μ1 := μ1) (vc := True) rfl (by decide +kernel) rfl trivial ?_
  refine pm_callSN2 mi_X9_copyRow (ix := 28) (host := RX9) (kc2 := 0) (ks2 := 0) (As := [.ref 219, .ref 7]) (rest := []) (c_X9_copyRow (a := 219) (b := 7) (n := 20) μ1 rfl rfl (by decide)) cal_X9_copyRow (by decide +kernel) (by decide +kernel) (by decide +kernel) rfl rfl (Nat.le_of_ble_eq_true rfl) (by decide) (by decide) ?_
  rintro _ μ2 ⟨rfl, e2⟩
  show pm_V _ _ _ _ 30 _ [] _
  refine pm_bl [(.aload_n 1, 1, 1, 0, 0), (.getfield 22, 3, 6, 3, 0), (.aload_n 0, 1, 0, 0, 0), (.getfield 22, 3, 6, 3, 0)] (pc1 := 38) (lo1 := [some (.ref 5), some (.ref 217)]) (st1 := [.ref 8, .ref 220]) (μ1 := μ2) (vc := True) rfl (by decide +kernel) rfl trivial ?_
  refine pm_callSN2 mi_X9_copyRow (ix := 28) (host := RX9) (kc2 := 0) (ks2 := 0) (As := [.ref 220, .ref 8]) (rest := []) (c_X9_copyRow (a := 220) (b := 8) (n := 20) μ2 rfl rfl (by decide)) cal_X9_copyRow (by decide +kernel) (by decide +kernel) (by decide +kernel) rfl rfl (Nat.le_of_ble_eq_true rfl) (by decide) (by decide) ?_
  rintro _ μ3 ⟨rfl, e3⟩
  show pm_V _ _ _ _ 41 _ [] _
  refine pm_bl [(.aload_n 1, 1, 1, 0, 0), (.getfield 25, 3, 6, 4, 0), (.aload_n 0, 1, 0, 0, 0), (.getfield 25, 3, 6, 4, 0)] (pc1 := 49) (lo1 := [some (.ref 5), some (.ref 217)]) (st1 := [.ref 9, .ref 221]) (μ1 := μ3) (vc := True) rfl (by decide +kernel) rfl trivial ?_
  refine pm_callSN2 mi_X9_copyRow (ix := 28) (host := RX9) (kc2 := 0) (ks2 := 0) (As := [.ref 221, .ref 9]) (rest := []) (c_X9_copyRow (a := 221) (b := 9) (n := 20) μ3 rfl rfl (by decide)) cal_X9_copyRow (by decide +kernel) (by decide +kernel) (by decide +kernel) rfl rfl (Nat.le_of_ble_eq_true rfl) (by decide) (by decide) ?_
  rintro _ μ4 ⟨rfl, e4⟩
  show pm_V _ _ _ _ 52 _ [] _
  exact pm_vret rfl (by decide) (by decide) (by decide +kernel) (by
    subst e1; subst e2; subst e3; subst e4
    refine ⟨rfl, rfl, fun i hi => by rw [pm_row_off (by omega), pm_row_off (by omega), pm_row_off (by omega), pm_row_off (by omega), pm_set_off (by omega)], lr_Rp.mv (b := 213) (b2 := 1) hX hn (by simp only [Nat.reduceAdd]; rw [pm_row_off (by decide), pm_row_off (by decide), pm_row_off (by decide), pm_row_off (by decide), pm_set_hit]) (fun k i h1 h2 h3 => ?_) (fun _ _ _ => rfl)⟩
    rcases (show k = 5 ∨ k = 6 ∨ k = 7 ∨ k = 8 by omega) with rfl | rfl | rfl | rfl
    · simp only [Nat.reduceAdd]; rw [pm_row_off (by decide), pm_row_off (by decide), pm_row_off (by decide), pm_row_at]; unfold va_cpy; rw [if_pos (by omega), pm_set_off (by decide), show 0 + (i - 0) = i from by omega]
    · simp only [Nat.reduceAdd]; rw [pm_row_off (by decide), pm_row_off (by decide), pm_row_at]; unfold va_cpy; rw [if_pos (by omega), pm_row_off (by decide), pm_set_off (by decide), show 0 + (i - 0) = i from by omega]
    · simp only [Nat.reduceAdd]; rw [pm_row_off (by decide), pm_row_at]; unfold va_cpy; rw [if_pos (by omega), pm_row_off (by decide), pm_row_off (by decide), pm_set_off (by decide), show 0 + (i - 0) = i from by omega]
    · simp only [Nat.reduceAdd]; rw [pm_row_at]; unfold va_cpy; rw [if_pos (by omega), pm_row_off (by decide), pm_row_off (by decide), pm_row_off (by decide), pm_set_off (by decide), show 0 + (i - 0) = i from by omega])
set_option maxHeartbeats 4000000 in
set_option maxRecDepth 100000 in
theorem c_X8_copyFrom_1_213 {g : Nat → Int32} (μ : pm_Mm) (hX : lr_Rw μ.1 213 g) (hn : lr_n g 116 ≤ 10) : pm_CT mi_X8_copyFrom [.ref 10, .ref 222] μ (fun v μ2 => v = none ∧ μ2.2 = μ.2 ∧ (∀ i, (i < 10 ∨ 15 < i) → μ2.1 i = μ.1 i) ∧ lr_Rw μ2.1 1 g) pm_NX := by
  refine pm_CT_of (lo := [some (.ref 10), some (.ref 222)]) (by decide +kernel) rfl rfl (by intro v hv; simp at hv; rcases hv with rfl | rfl <;> rfl) (Nat.le_of_ble_eq_true rfl) rfl ?_
  refine pm_bl [(.aload_n 0, 1, 0, 0, 0), (.aload_n 1, 1, 1, 0, 0), (.getfield 9, 3, 8, 0, 0), (.putfield 9, 3, 8, 0, 0), (.aload_n 1, 1, 1, 0, 0), (.getfield 15, 3, 8, 1, 0), (.aload_n 0, 1, 0, 0, 0), (.getfield 15, 3, 8, 1, 0)] (pc1 := 16) (lo1 := [some (.ref 10), some (.ref 222)]) (st1 := [.ref 11, .ref 223]) (μ1 := pm_set μ 10 0 (μ.1 222 0)) (vc := True) rfl (by decide +kernel) rfl trivial ?_
  refine pm_callSN2 mi_X9_copyRow (ix := 31) (host := RX9) (kc2 := 0) (ks2 := 0) (As := [.ref 223, .ref 11]) (rest := []) (c_X9_copyRow (a := 223) (b := 11) (n := 10) (pm_set μ 10 0 (μ.1 222 0)) rfl rfl (by decide)) cal_X9_copyRow (by decide +kernel) (by decide +kernel) (by decide +kernel) rfl rfl (Nat.le_of_ble_eq_true rfl) (by decide) (by decide) ?_
  rintro _ μ1 ⟨rfl, e1⟩
  show pm_V _ _ _ _ 19 _ [] _
  refine pm_bl [(.aload_n 1, 1, 1, 0, 0), (.getfield 19, 3, 8, 2, 0), (.aload_n 0, 1, 0, 0, 0), (.getfield 19, 3, 8, 2, 0)] (pc1 := 27) (lo1 := [some (.ref 10), some (.ref 222)]) (st1 := [.ref 12, .ref 224]) (μ1 := μ1) (vc := True) rfl (by decide +kernel) rfl trivial ?_
  refine pm_callSN2 mi_X9_copyRow (ix := 31) (host := RX9) (kc2 := 0) (ks2 := 0) (As := [.ref 224, .ref 12]) (rest := []) (c_X9_copyRow (a := 224) (b := 12) (n := 10) μ1 rfl rfl (by decide)) cal_X9_copyRow (by decide +kernel) (by decide +kernel) (by decide +kernel) rfl rfl (Nat.le_of_ble_eq_true rfl) (by decide) (by decide) ?_
  rintro _ μ2 ⟨rfl, e2⟩
  show pm_V _ _ _ _ 30 _ [] _
  refine pm_bl [(.aload_n 1, 1, 1, 0, 0), (.getfield 22, 3, 8, 3, 0), (.aload_n 0, 1, 0, 0, 0), (.getfield 22, 3, 8, 3, 0)] (pc1 := 38) (lo1 := [some (.ref 10), some (.ref 222)]) (st1 := [.ref 13, .ref 225]) (μ1 := μ2) (vc := True) rfl (by decide +kernel) rfl trivial ?_
  refine pm_callSN2 mi_X9_copyRow (ix := 31) (host := RX9) (kc2 := 0) (ks2 := 0) (As := [.ref 225, .ref 13]) (rest := []) (c_X9_copyRow (a := 225) (b := 13) (n := 10) μ2 rfl rfl (by decide)) cal_X9_copyRow (by decide +kernel) (by decide +kernel) (by decide +kernel) rfl rfl (Nat.le_of_ble_eq_true rfl) (by decide) (by decide) ?_
  rintro _ μ3 ⟨rfl, e3⟩
  show pm_V _ _ _ _ 41 _ [] _
  refine pm_bl [(.aload_n 1, 1, 1, 0, 0), (.getfield 25, 3, 8, 4, 0), (.aload_n 0, 1, 0, 0, 0), (.getfield 25, 3, 8, 4, 0)] (pc1 := 49) (lo1 := [some (.ref 10), some (.ref 222)]) (st1 := [.ref 14, .ref 226]) (μ1 := μ3) (vc := True) rfl (by decide +kernel) rfl trivial ?_
  refine pm_callSN2 mi_X9_copyRow (ix := 31) (host := RX9) (kc2 := 0) (ks2 := 0) (As := [.ref 226, .ref 14]) (rest := []) (c_X9_copyRow (a := 226) (b := 14) (n := 10) μ3 rfl rfl (by decide)) cal_X9_copyRow (by decide +kernel) (by decide +kernel) (by decide +kernel) rfl rfl (Nat.le_of_ble_eq_true rfl) (by decide) (by decide) ?_
  rintro _ μ4 ⟨rfl, e4⟩
  show pm_V _ _ _ _ 52 _ [] _
  refine pm_bl [(.aload_n 1, 1, 1, 0, 0), (.getfield 28, 3, 8, 5, 0), (.aload_n 0, 1, 0, 0, 0), (.getfield 28, 3, 8, 5, 0)] (pc1 := 60) (lo1 := [some (.ref 10), some (.ref 222)]) (st1 := [.ref 15, .ref 227]) (μ1 := μ4) (vc := True) rfl (by decide +kernel) rfl trivial ?_
  refine pm_callSN2 mi_X9_copyRow (ix := 31) (host := RX9) (kc2 := 0) (ks2 := 0) (As := [.ref 227, .ref 15]) (rest := []) (c_X9_copyRow (a := 227) (b := 15) (n := 10) μ4 rfl rfl (by decide)) cal_X9_copyRow (by decide +kernel) (by decide +kernel) (by decide +kernel) rfl rfl (Nat.le_of_ble_eq_true rfl) (by decide) (by decide) ?_
  rintro _ μ5 ⟨rfl, e5⟩
  show pm_V _ _ _ _ 63 _ [] _
  exact pm_vret rfl (by decide) (by decide) (by decide +kernel) (by
    subst e1; subst e2; subst e3; subst e4; subst e5
    refine ⟨rfl, rfl, fun i hi => by rw [pm_row_off (by omega), pm_row_off (by omega), pm_row_off (by omega), pm_row_off (by omega), pm_row_off (by omega), pm_set_off (by omega)], lr_Rw.mv (b := 213) (b2 := 1) hX hn (by simp only [Nat.reduceAdd]; rw [pm_row_off (by decide), pm_row_off (by decide), pm_row_off (by decide), pm_row_off (by decide), pm_row_off (by decide), pm_set_hit]) (fun k i h1 h2 h3 => ?_) (fun _ _ _ => rfl)⟩
    rcases (show k = 10 ∨ k = 11 ∨ k = 12 ∨ k = 13 ∨ k = 14 by omega) with rfl | rfl | rfl | rfl | rfl
    · simp only [Nat.reduceAdd]; rw [pm_row_off (by decide), pm_row_off (by decide), pm_row_off (by decide), pm_row_off (by decide), pm_row_at]; unfold va_cpy; rw [if_pos (by omega), pm_set_off (by decide), show 0 + (i - 0) = i from by omega]
    · simp only [Nat.reduceAdd]; rw [pm_row_off (by decide), pm_row_off (by decide), pm_row_off (by decide), pm_row_at]; unfold va_cpy; rw [if_pos (by omega), pm_row_off (by decide), pm_set_off (by decide), show 0 + (i - 0) = i from by omega]
    · simp only [Nat.reduceAdd]; rw [pm_row_off (by decide), pm_row_off (by decide), pm_row_at]; unfold va_cpy; rw [if_pos (by omega), pm_row_off (by decide), pm_row_off (by decide), pm_set_off (by decide), show 0 + (i - 0) = i from by omega]
    · simp only [Nat.reduceAdd]; rw [pm_row_off (by decide), pm_row_at]; unfold va_cpy; rw [if_pos (by omega), pm_row_off (by decide), pm_row_off (by decide), pm_row_off (by decide), pm_set_off (by decide), show 0 + (i - 0) = i from by omega]
    · simp only [Nat.reduceAdd]; rw [pm_row_at]; unfold va_cpy; rw [if_pos (by omega), pm_row_off (by decide), pm_row_off (by decide), pm_row_off (by decide), pm_row_off (by decide), pm_set_off (by decide), show 0 + (i - 0) = i from by omega])
set_option maxHeartbeats 4000000 in
set_option maxRecDepth 100000 in
theorem c_X7_copyFrom_1_213 {g : Nat → Int32} (μ : pm_Mm) (hX : lr_Rr μ.1 213 g) (hn : lr_n g 167 ≤ 12) : pm_CT mi_X7_copyFrom [.ref 16, .ref 228] μ (fun v μ2 => v = none ∧ μ2.2 = μ.2 ∧ (∀ i, (i < 16 ∨ 21 < i) → μ2.1 i = μ.1 i) ∧ lr_Rr μ2.1 1 g) pm_NX := by
  refine pm_CT_of (lo := [some (.ref 16), some (.ref 228)]) (by decide +kernel) rfl rfl (by intro v hv; simp at hv; rcases hv with rfl | rfl <;> rfl) (Nat.le_of_ble_eq_true rfl) rfl ?_
  refine pm_bl [(.aload_n 0, 1, 0, 0, 0), (.aload_n 1, 1, 1, 0, 0), (.getfield 9, 3, 7, 0, 0), (.putfield 9, 3, 7, 0, 0), (.aload_n 1, 1, 1, 0, 0), (.getfield 15, 3, 7, 1, 0), (.aload_n 0, 1, 0, 0, 0), (.getfield 15, 3, 7, 1, 0)] (pc1 := 16) (lo1 := [some (.ref 16), some (.ref 228)]) (st1 := [.ref 17, .ref 229]) (μ1 := pm_set μ 16 0 (μ.1 228 0)) (vc := True) rfl (by decide +kernel) rfl trivial ?_
  refine pm_callSN2 mi_X9_copyRow (ix := 31) (host := RX9) (kc2 := 0) (ks2 := 0) (As := [.ref 229, .ref 17]) (rest := []) (c_X9_copyRow (a := 229) (b := 17) (n := 12) (pm_set μ 16 0 (μ.1 228 0)) rfl rfl (by decide)) cal_X9_copyRow (by decide +kernel) (by decide +kernel) (by decide +kernel) rfl rfl (Nat.le_of_ble_eq_true rfl) (by decide) (by decide) ?_
  rintro _ μ1 ⟨rfl, e1⟩
  show pm_V _ _ _ _ 19 _ [] _
  refine pm_bl [(.aload_n 1, 1, 1, 0, 0), (.getfield 19, 3, 7, 2, 0), (.aload_n 0, 1, 0, 0, 0), (.getfield 19, 3, 7, 2, 0)] (pc1 := 27) (lo1 := [some (.ref 16), some (.ref 228)]) (st1 := [.ref 18, .ref 230]) (μ1 := μ1) (vc := True) rfl (by decide +kernel) rfl trivial ?_
  refine pm_callSN2 mi_X9_copyRow (ix := 31) (host := RX9) (kc2 := 0) (ks2 := 0) (As := [.ref 230, .ref 18]) (rest := []) (c_X9_copyRow (a := 230) (b := 18) (n := 12) μ1 rfl rfl (by decide)) cal_X9_copyRow (by decide +kernel) (by decide +kernel) (by decide +kernel) rfl rfl (Nat.le_of_ble_eq_true rfl) (by decide) (by decide) ?_
  rintro _ μ2 ⟨rfl, e2⟩
  show pm_V _ _ _ _ 30 _ [] _
  refine pm_bl [(.aload_n 1, 1, 1, 0, 0), (.getfield 22, 3, 7, 3, 0), (.aload_n 0, 1, 0, 0, 0), (.getfield 22, 3, 7, 3, 0)] (pc1 := 38) (lo1 := [some (.ref 16), some (.ref 228)]) (st1 := [.ref 19, .ref 231]) (μ1 := μ2) (vc := True) rfl (by decide +kernel) rfl trivial ?_
  refine pm_callSN2 mi_X9_copyRow (ix := 31) (host := RX9) (kc2 := 0) (ks2 := 0) (As := [.ref 231, .ref 19]) (rest := []) (c_X9_copyRow (a := 231) (b := 19) (n := 12) μ2 rfl rfl (by decide)) cal_X9_copyRow (by decide +kernel) (by decide +kernel) (by decide +kernel) rfl rfl (Nat.le_of_ble_eq_true rfl) (by decide) (by decide) ?_
  rintro _ μ3 ⟨rfl, e3⟩
  show pm_V _ _ _ _ 41 _ [] _
  refine pm_bl [(.aload_n 1, 1, 1, 0, 0), (.getfield 25, 3, 7, 4, 0), (.aload_n 0, 1, 0, 0, 0), (.getfield 25, 3, 7, 4, 0)] (pc1 := 49) (lo1 := [some (.ref 16), some (.ref 228)]) (st1 := [.ref 20, .ref 232]) (μ1 := μ3) (vc := True) rfl (by decide +kernel) rfl trivial ?_
  refine pm_callSN2 mi_X9_copyRow (ix := 31) (host := RX9) (kc2 := 0) (ks2 := 0) (As := [.ref 232, .ref 20]) (rest := []) (c_X9_copyRow (a := 232) (b := 20) (n := 12) μ3 rfl rfl (by decide)) cal_X9_copyRow (by decide +kernel) (by decide +kernel) (by decide +kernel) rfl rfl (Nat.le_of_ble_eq_true rfl) (by decide) (by decide) ?_
  rintro _ μ4 ⟨rfl, e4⟩
  show pm_V _ _ _ _ 52 _ [] _
  refine pm_bl [(.aload_n 1, 1, 1, 0, 0), (.getfield 28, 3, 7, 5, 0), (.aload_n 0, 1, 0, 0, 0), (.getfield 28, 3, 7, 5, 0)] (pc1 := 60) (lo1 := [some (.ref 16), some (.ref 228)]) (st1 := [.ref 21, .ref 233]) (μ1 := μ4) (vc := True) rfl (by decide +kernel) rfl trivial ?_
  refine pm_callSN2 mi_X9_copyRow (ix := 31) (host := RX9) (kc2 := 0) (ks2 := 0) (As := [.ref 233, .ref 21]) (rest := []) (c_X9_copyRow (a := 233) (b := 21) (n := 12) μ4 rfl rfl (by decide)) cal_X9_copyRow (by decide +kernel) (by decide +kernel) (by decide +kernel) rfl rfl (Nat.le_of_ble_eq_true rfl) (by decide) (by decide) ?_
  rintro _ μ5 ⟨rfl, e5⟩
  show pm_V _ _ _ _ 63 _ [] _
  exact pm_vret rfl (by decide) (by decide) (by decide +kernel) (by
    subst e1; subst e2; subst e3; subst e4; subst e5
    refine ⟨rfl, rfl, fun i hi => by rw [pm_row_off (by omega), pm_row_off (by omega), pm_row_off (by omega), pm_row_off (by omega), pm_row_off (by omega), pm_set_off (by omega)], lr_Rr.mv (b := 213) (b2 := 1) hX hn (by simp only [Nat.reduceAdd]; rw [pm_row_off (by decide), pm_row_off (by decide), pm_row_off (by decide), pm_row_off (by decide), pm_row_off (by decide), pm_set_hit]) (fun k i h1 h2 h3 => ?_) (fun _ _ _ => rfl)⟩
    rcases (show k = 16 ∨ k = 17 ∨ k = 18 ∨ k = 19 ∨ k = 20 by omega) with rfl | rfl | rfl | rfl | rfl
    · simp only [Nat.reduceAdd]; rw [pm_row_off (by decide), pm_row_off (by decide), pm_row_off (by decide), pm_row_off (by decide), pm_row_at]; unfold va_cpy; rw [if_pos (by omega), pm_set_off (by decide), show 0 + (i - 0) = i from by omega]
    · simp only [Nat.reduceAdd]; rw [pm_row_off (by decide), pm_row_off (by decide), pm_row_off (by decide), pm_row_at]; unfold va_cpy; rw [if_pos (by omega), pm_row_off (by decide), pm_set_off (by decide), show 0 + (i - 0) = i from by omega]
    · simp only [Nat.reduceAdd]; rw [pm_row_off (by decide), pm_row_off (by decide), pm_row_at]; unfold va_cpy; rw [if_pos (by omega), pm_row_off (by decide), pm_row_off (by decide), pm_set_off (by decide), show 0 + (i - 0) = i from by omega]
    · simp only [Nat.reduceAdd]; rw [pm_row_off (by decide), pm_row_at]; unfold va_cpy; rw [if_pos (by omega), pm_row_off (by decide), pm_row_off (by decide), pm_row_off (by decide), pm_set_off (by decide), show 0 + (i - 0) = i from by omega]
    · simp only [Nat.reduceAdd]; rw [pm_row_at]; unfold va_cpy; rw [if_pos (by omega), pm_row_off (by decide), pm_row_off (by decide), pm_row_off (by decide), pm_row_off (by decide), pm_set_off (by decide), show 0 + (i - 0) = i from by omega])
set_option maxHeartbeats 4000000 in
set_option maxRecDepth 100000 in
theorem c_X0_copyFrom_1_213 {g : Nat → Int32} (μ : pm_Mm) (hX : lr_Ra μ.1 213 g) (hn : lr_n g 228 ≤ 20) : pm_CT mi_X0_copyFrom [.ref 22, .ref 234] μ (fun v μ2 => v = none ∧ μ2.2 = μ.2 ∧ (∀ i, (i < 22 ∨ 25 < i) → μ2.1 i = μ.1 i) ∧ lr_Ra μ2.1 1 g) pm_NX := by
  refine pm_CT_of (lo := [some (.ref 22), some (.ref 234)]) (by decide +kernel) rfl rfl (by intro v hv; simp at hv; rcases hv with rfl | rfl <;> rfl) (Nat.le_of_ble_eq_true rfl) rfl ?_
  refine pm_bl [(.aload_n 0, 1, 0, 0, 0), (.aload_n 1, 1, 1, 0, 0), (.getfield 9, 3, 0, 0, 0), (.putfield 9, 3, 0, 0, 0), (.aload_n 1, 1, 1, 0, 0), (.getfield 15, 3, 0, 1, 0), (.aload_n 0, 1, 0, 0, 0), (.getfield 15, 3, 0, 1, 0)] (pc1 := 16) (lo1 := [some (.ref 22), some (.ref 234)]) (st1 := [.ref 23, .ref 235]) (μ1 := pm_set μ 22 0 (μ.1 234 0)) (vc := True) rfl (by decide +kernel) rfl trivial ?_
  refine pm_callSN2 mi_X9_copyRow (ix := 25) (host := RX9) (kc2 := 0) (ks2 := 0) (As := [.ref 235, .ref 23]) (rest := []) (c_X9_copyRow (a := 235) (b := 23) (n := 20) (pm_set μ 22 0 (μ.1 234 0)) rfl rfl (by decide)) cal_X9_copyRow (by decide +kernel) (by decide +kernel) (by decide +kernel) rfl rfl (Nat.le_of_ble_eq_true rfl) (by decide) (by decide) ?_
  rintro _ μ1 ⟨rfl, e1⟩
  show pm_V _ _ _ _ 19 _ [] _
  refine pm_bl [(.aload_n 1, 1, 1, 0, 0), (.getfield 19, 3, 0, 2, 0), (.aload_n 0, 1, 0, 0, 0), (.getfield 19, 3, 0, 2, 0)] (pc1 := 27) (lo1 := [some (.ref 22), some (.ref 234)]) (st1 := [.ref 24, .ref 236]) (μ1 := μ1) (vc := True) rfl (by decide +kernel) rfl trivial ?_
  refine pm_callSN2 mi_X9_copyRow (ix := 25) (host := RX9) (kc2 := 0) (ks2 := 0) (As := [.ref 236, .ref 24]) (rest := []) (c_X9_copyRow (a := 236) (b := 24) (n := 20) μ1 rfl rfl (by decide)) cal_X9_copyRow (by decide +kernel) (by decide +kernel) (by decide +kernel) rfl rfl (Nat.le_of_ble_eq_true rfl) (by decide) (by decide) ?_
  rintro _ μ2 ⟨rfl, e2⟩
  show pm_V _ _ _ _ 30 _ [] _
  refine pm_bl [(.aload_n 1, 1, 1, 0, 0), (.getfield 22, 3, 0, 3, 0), (.aload_n 0, 1, 0, 0, 0), (.getfield 22, 3, 0, 3, 0)] (pc1 := 38) (lo1 := [some (.ref 22), some (.ref 234)]) (st1 := [.ref 25, .ref 237]) (μ1 := μ2) (vc := True) rfl (by decide +kernel) rfl trivial ?_
  refine pm_callSN2 mi_X9_copyRow (ix := 25) (host := RX9) (kc2 := 0) (ks2 := 0) (As := [.ref 237, .ref 25]) (rest := []) (c_X9_copyRow (a := 237) (b := 25) (n := 20) μ2 rfl rfl (by decide)) cal_X9_copyRow (by decide +kernel) (by decide +kernel) (by decide +kernel) rfl rfl (Nat.le_of_ble_eq_true rfl) (by decide) (by decide) ?_
  rintro _ μ3 ⟨rfl, e3⟩
  show pm_V _ _ _ _ 41 _ [] _
  exact pm_vret rfl (by decide) (by decide) (by decide +kernel) (by
    subst e1; subst e2; subst e3
    refine ⟨rfl, rfl, fun i hi => by rw [pm_row_off (by omega), pm_row_off (by omega), pm_row_off (by omega), pm_set_off (by omega)], lr_Ra.mv (b := 213) (b2 := 1) hX hn (by simp only [Nat.reduceAdd]; rw [pm_row_off (by decide), pm_row_off (by decide), pm_row_off (by decide), pm_set_hit]) (fun k i h1 h2 h3 => ?_) (fun _ _ _ => rfl)⟩
    rcases (show k = 22 ∨ k = 23 ∨ k = 24 by omega) with rfl | rfl | rfl
    · simp only [Nat.reduceAdd]; rw [pm_row_off (by decide), pm_row_off (by decide), pm_row_at]; unfold va_cpy; rw [if_pos (by omega), pm_set_off (by decide), show 0 + (i - 0) = i from by omega]
    · simp only [Nat.reduceAdd]; rw [pm_row_off (by decide), pm_row_at]; unfold va_cpy; rw [if_pos (by omega), pm_row_off (by decide), pm_set_off (by decide), show 0 + (i - 0) = i from by omega]
    · simp only [Nat.reduceAdd]; rw [pm_row_at]; unfold va_cpy; rw [if_pos (by omega), pm_row_off (by decide), pm_row_off (by decide), pm_set_off (by decide), show 0 + (i - 0) = i from by omega])
set_option maxHeartbeats 4000000 in
set_option maxRecDepth 100000 in
theorem c_X4_copyFrom_1_213 {g : Nat → Int32} (μ : pm_Mm) (hX : lr_Rl μ.1 213 g) (hn : lr_n g 289 ≤ 30) : pm_CT mi_X4_copyFrom [.ref 26, .ref 238] μ (fun v μ2 => v = none ∧ μ2.2 = μ.2 ∧ (∀ i, (i < 26 ∨ 38 < i) → μ2.1 i = μ.1 i) ∧ lr_Rl μ2.1 1 g) pm_NX := by
  refine pm_CT_of (lo := [some (.ref 26), some (.ref 238)]) (by decide +kernel) rfl rfl (by intro v hv; simp at hv; rcases hv with rfl | rfl <;> rfl) (Nat.le_of_ble_eq_true rfl) rfl ?_
  refine pm_bl [(.aload_n 0, 1, 0, 0, 0), (.aload_n 1, 1, 1, 0, 0), (.getfield 9, 3, 4, 0, 0), (.putfield 9, 3, 4, 0, 0), (.aload_n 0, 1, 0, 0, 0), (.aload_n 1, 1, 1, 0, 0), (.getfield 15, 3, 4, 1, 0), (.putfield 15, 3, 4, 1, 0), (.aload_n 1, 1, 1, 0, 0), (.getfield 18, 3, 4, 2, 0), (.aload_n 0, 1, 0, 0, 0), (.getfield 18, 3, 4, 2, 0)] (pc1 := 24) (lo1 := [some (.ref 26), some (.ref 238)]) (st1 := [.ref 27, .ref 239]) (μ1 := pm_set (pm_set μ 26 0 (μ.1 238 0)) 26 1 ((pm_set μ 26 0 (μ.1 238 0)).1 238 1)) (vc := True) rfl (by decide +kernel) rfl trivial ?_
  rw [show (pm_set μ 26 0 (μ.1 238 0)).1 238 1 = μ.1 238 1 from by simp [pm_set]]
  refine pm_callSN2 mi_X9_copyRow (ix := 55) (host := RX9) (kc2 := 0) (ks2 := 0) (As := [.ref 239, .ref 27]) (rest := []) (c_X9_copyRow (a := 239) (b := 27) (n := 30) (pm_set (pm_set μ 26 0 (μ.1 238 0)) 26 1 (μ.1 238 1)) rfl rfl (by decide)) cal_X9_copyRow (by decide +kernel) (by decide +kernel) (by decide +kernel) rfl rfl (Nat.le_of_ble_eq_true rfl) (by decide) (by decide) ?_
  rintro _ μ1 ⟨rfl, e1⟩
  show pm_V _ _ _ _ 27 _ [] _
  refine pm_bl [(.aload_n 1, 1, 1, 0, 0), (.getfield 22, 3, 4, 3, 0), (.aload_n 0, 1, 0, 0, 0), (.getfield 22, 3, 4, 3, 0)] (pc1 := 35) (lo1 := [some (.ref 26), some (.ref 238)]) (st1 := [.ref 28, .ref 240]) (μ1 := μ1) (vc := True) rfl (by decide +kernel) rfl trivial ?_
  refine pm_callSN2 mi_X9_copyRow (ix := 55) (host := RX9) (kc2 := 0) (ks2 := 0) (As := [.ref 240, .ref 28]) (rest := []) (c_X9_copyRow (a := 240) (b := 28) (n := 30) μ1 rfl rfl (by decide)) cal_X9_copyRow (by decide +kernel) (by decide +kernel) (by decide +kernel) rfl rfl (Nat.le_of_ble_eq_true rfl) (by decide) (by decide) ?_
  rintro _ μ2 ⟨rfl, e2⟩
  show pm_V _ _ _ _ 38 _ [] _
  refine pm_bl [(.aload_n 1, 1, 1, 0, 0), (.getfield 25, 3, 4, 4, 0), (.aload_n 0, 1, 0, 0, 0), (.getfield 25, 3, 4, 4, 0)] (pc1 := 46) (lo1 := [some (.ref 26), some (.ref 238)]) (st1 := [.ref 29, .ref 241]) (μ1 := μ2) (vc := True) rfl (by decide +kernel) rfl trivial ?_
  refine pm_callSN2 mi_X9_copyRow (ix := 55) (host := RX9) (kc2 := 0) (ks2 := 0) (As := [.ref 241, .ref 29]) (rest := []) (c_X9_copyRow (a := 241) (b := 29) (n := 30) μ2 rfl rfl (by decide)) cal_X9_copyRow (by decide +kernel) (by decide +kernel) (by decide +kernel) rfl rfl (Nat.le_of_ble_eq_true rfl) (by decide) (by decide) ?_
  rintro _ μ3 ⟨rfl, e3⟩
  show pm_V _ _ _ _ 49 _ [] _
  refine pm_bl [(.aload_n 1, 1, 1, 0, 0), (.getfield 28, 3, 4, 5, 0), (.aload_n 0, 1, 0, 0, 0), (.getfield 28, 3, 4, 5, 0)] (pc1 := 57) (lo1 := [some (.ref 26), some (.ref 238)]) (st1 := [.ref 30, .ref 242]) (μ1 := μ3) (vc := True) rfl (by decide +kernel) rfl trivial ?_
  refine pm_callSN2 mi_X9_copyRow (ix := 55) (host := RX9) (kc2 := 0) (ks2 := 0) (As := [.ref 242, .ref 30]) (rest := []) (c_X9_copyRow (a := 242) (b := 30) (n := 30) μ3 rfl rfl (by decide)) cal_X9_copyRow (by decide +kernel) (by decide +kernel) (by decide +kernel) rfl rfl (Nat.le_of_ble_eq_true rfl) (by decide) (by decide) ?_
  rintro _ μ4 ⟨rfl, e4⟩
  show pm_V _ _ _ _ 60 _ [] _
  refine pm_bl [(.aload_n 1, 1, 1, 0, 0), (.getfield 31, 3, 4, 6, 0), (.aload_n 0, 1, 0, 0, 0), (.getfield 31, 3, 4, 6, 0)] (pc1 := 68) (lo1 := [some (.ref 26), some (.ref 238)]) (st1 := [.ref 31, .ref 243]) (μ1 := μ4) (vc := True) rfl (by decide +kernel) rfl trivial ?_
  refine pm_callSN2 mi_X9_copyRow (ix := 55) (host := RX9) (kc2 := 0) (ks2 := 0) (As := [.ref 243, .ref 31]) (rest := []) (c_X9_copyRow (a := 243) (b := 31) (n := 30) μ4 rfl rfl (by decide)) cal_X9_copyRow (by decide +kernel) (by decide +kernel) (by decide +kernel) rfl rfl (Nat.le_of_ble_eq_true rfl) (by decide) (by decide) ?_
  rintro _ μ5 ⟨rfl, e5⟩
  show pm_V _ _ _ _ 71 _ [] _
  refine pm_bl [(.aload_n 1, 1, 1, 0, 0), (.getfield 34, 3, 4, 7, 0), (.aload_n 0, 1, 0, 0, 0), (.getfield 34, 3, 4, 7, 0)] (pc1 := 79) (lo1 := [some (.ref 26), some (.ref 238)]) (st1 := [.ref 32, .ref 244]) (μ1 := μ5) (vc := True) rfl (by decide +kernel) rfl trivial ?_
  refine pm_callSN2 mi_X9_copyRow (ix := 55) (host := RX9) (kc2 := 0) (ks2 := 0) (As := [.ref 244, .ref 32]) (rest := []) (c_X9_copyRow (a := 244) (b := 32) (n := 30) μ5 rfl rfl (by decide)) cal_X9_copyRow (by decide +kernel) (by decide +kernel) (by decide +kernel) rfl rfl (Nat.le_of_ble_eq_true rfl) (by decide) (by decide) ?_
  rintro _ μ6 ⟨rfl, e6⟩
  show pm_V _ _ _ _ 82 _ [] _
  refine pm_bl [(.aload_n 1, 1, 1, 0, 0), (.getfield 37, 3, 4, 8, 0), (.aload_n 0, 1, 0, 0, 0), (.getfield 37, 3, 4, 8, 0)] (pc1 := 90) (lo1 := [some (.ref 26), some (.ref 238)]) (st1 := [.ref 33, .ref 245]) (μ1 := μ6) (vc := True) rfl (by decide +kernel) rfl trivial ?_
  refine pm_callSN2 mi_X9_copyRow (ix := 55) (host := RX9) (kc2 := 0) (ks2 := 0) (As := [.ref 245, .ref 33]) (rest := []) (c_X9_copyRow (a := 245) (b := 33) (n := 30) μ6 rfl rfl (by decide)) cal_X9_copyRow (by decide +kernel) (by decide +kernel) (by decide +kernel) rfl rfl (Nat.le_of_ble_eq_true rfl) (by decide) (by decide) ?_
  rintro _ μ7 ⟨rfl, e7⟩
  show pm_V _ _ _ _ 93 _ [] _
  refine pm_bl [(.aload_n 1, 1, 1, 0, 0), (.getfield 40, 3, 4, 9, 0), (.aload_n 0, 1, 0, 0, 0), (.getfield 40, 3, 4, 9, 0)] (pc1 := 101) (lo1 := [some (.ref 26), some (.ref 238)]) (st1 := [.ref 34, .ref 246]) (μ1 := μ7) (vc := True) rfl (by decide +kernel) rfl trivial ?_
  refine pm_callSN2 mi_X9_copyRow (ix := 55) (host := RX9) (kc2 := 0) (ks2 := 0) (As := [.ref 246, .ref 34]) (rest := []) (c_X9_copyRow (a := 246) (b := 34) (n := 30) μ7 rfl rfl (by decide)) cal_X9_copyRow (by decide +kernel) (by decide +kernel) (by decide +kernel) rfl rfl (Nat.le_of_ble_eq_true rfl) (by decide) (by decide) ?_
  rintro _ μ8 ⟨rfl, e8⟩
  show pm_V _ _ _ _ 104 _ [] _
  refine pm_bl [(.aload_n 1, 1, 1, 0, 0), (.getfield 43, 3, 4, 10, 0), (.aload_n 0, 1, 0, 0, 0), (.getfield 43, 3, 4, 10, 0)] (pc1 := 112) (lo1 := [some (.ref 26), some (.ref 238)]) (st1 := [.ref 35, .ref 247]) (μ1 := μ8) (vc := True) rfl (by decide +kernel) rfl trivial ?_
  refine pm_callSN2 mi_X9_copyRow (ix := 55) (host := RX9) (kc2 := 0) (ks2 := 0) (As := [.ref 247, .ref 35]) (rest := []) (c_X9_copyRow (a := 247) (b := 35) (n := 30) μ8 rfl rfl (by decide)) cal_X9_copyRow (by decide +kernel) (by decide +kernel) (by decide +kernel) rfl rfl (Nat.le_of_ble_eq_true rfl) (by decide) (by decide) ?_
  rintro _ μ9 ⟨rfl, e9⟩
  show pm_V _ _ _ _ 115 _ [] _
  refine pm_bl [(.aload_n 1, 1, 1, 0, 0), (.getfield 46, 3, 4, 11, 0), (.aload_n 0, 1, 0, 0, 0), (.getfield 46, 3, 4, 11, 0)] (pc1 := 123) (lo1 := [some (.ref 26), some (.ref 238)]) (st1 := [.ref 36, .ref 248]) (μ1 := μ9) (vc := True) rfl (by decide +kernel) rfl trivial ?_
  refine pm_callSN2 mi_X9_copyRow (ix := 55) (host := RX9) (kc2 := 0) (ks2 := 0) (As := [.ref 248, .ref 36]) (rest := []) (c_X9_copyRow (a := 248) (b := 36) (n := 30) μ9 rfl rfl (by decide)) cal_X9_copyRow (by decide +kernel) (by decide +kernel) (by decide +kernel) rfl rfl (Nat.le_of_ble_eq_true rfl) (by decide) (by decide) ?_
  rintro _ μ10 ⟨rfl, e10⟩
  show pm_V _ _ _ _ 126 _ [] _
  refine pm_bl [(.aload_n 1, 1, 1, 0, 0), (.getfield 49, 3, 4, 12, 0), (.aload_n 0, 1, 0, 0, 0), (.getfield 49, 3, 4, 12, 0)] (pc1 := 134) (lo1 := [some (.ref 26), some (.ref 238)]) (st1 := [.ref 37, .ref 249]) (μ1 := μ10) (vc := True) rfl (by decide +kernel) rfl trivial ?_
  refine pm_callSN2 mi_X9_copyRow (ix := 55) (host := RX9) (kc2 := 0) (ks2 := 0) (As := [.ref 249, .ref 37]) (rest := []) (c_X9_copyRow (a := 249) (b := 37) (n := 30) μ10 rfl rfl (by decide)) cal_X9_copyRow (by decide +kernel) (by decide +kernel) (by decide +kernel) rfl rfl (Nat.le_of_ble_eq_true rfl) (by decide) (by decide) ?_
  rintro _ μ11 ⟨rfl, e11⟩
  show pm_V _ _ _ _ 137 _ [] _
  refine pm_bl [(.aload_n 1, 1, 1, 0, 0), (.getfield 52, 3, 4, 13, 0), (.aload_n 0, 1, 0, 0, 0), (.getfield 52, 3, 4, 13, 0)] (pc1 := 145) (lo1 := [some (.ref 26), some (.ref 238)]) (st1 := [.ref 38, .ref 250]) (μ1 := μ11) (vc := True) rfl (by decide +kernel) rfl trivial ?_
  refine pm_callSN2 mi_X9_copyRow (ix := 55) (host := RX9) (kc2 := 0) (ks2 := 0) (As := [.ref 250, .ref 38]) (rest := []) (c_X9_copyRow (a := 250) (b := 38) (n := 30) μ11 rfl rfl (by decide)) cal_X9_copyRow (by decide +kernel) (by decide +kernel) (by decide +kernel) rfl rfl (Nat.le_of_ble_eq_true rfl) (by decide) (by decide) ?_
  rintro _ μ12 ⟨rfl, e12⟩
  show pm_V _ _ _ _ 148 _ [] _
  exact pm_vret rfl (by decide) (by decide) (by decide +kernel) (by
    subst e1; subst e2; subst e3; subst e4; subst e5; subst e6; subst e7; subst e8; subst e9; subst e10; subst e11; subst e12
    refine ⟨rfl, rfl, fun i hi => by rw [pm_row_off (by omega), pm_row_off (by omega), pm_row_off (by omega), pm_row_off (by omega), pm_row_off (by omega), pm_row_off (by omega), pm_row_off (by omega), pm_row_off (by omega), pm_row_off (by omega), pm_row_off (by omega), pm_row_off (by omega), pm_row_off (by omega), pm_set_off (by omega), pm_set_off (by omega)], lr_Rl.mv (b := 213) (b2 := 1) hX hn (by simp only [Nat.reduceAdd]; rw [pm_row_off (by decide), pm_row_off (by decide), pm_row_off (by decide), pm_row_off (by decide), pm_row_off (by decide), pm_row_off (by decide), pm_row_off (by decide), pm_row_off (by decide), pm_row_off (by decide), pm_row_off (by decide), pm_row_off (by decide), pm_row_off (by decide), pm_set_miss (Or.inr (by decide)), pm_set_hit]) (by simp only [Nat.reduceAdd]; rw [pm_row_off (by decide), pm_row_off (by decide), pm_row_off (by decide), pm_row_off (by decide), pm_row_off (by decide), pm_row_off (by decide), pm_row_off (by decide), pm_row_off (by decide), pm_row_off (by decide), pm_row_off (by decide), pm_row_off (by decide), pm_row_off (by decide), pm_set_hit]) (fun k i h1 h2 h3 => ?_) (fun _ _ _ => rfl) rfl⟩
    rcases (show k = 26 ∨ k = 27 ∨ k = 28 ∨ k = 29 ∨ k = 30 ∨ k = 31 ∨ k = 32 ∨ k = 33 ∨ k = 34 ∨ k = 35 ∨ k = 36 ∨ k = 37 by omega) with rfl | rfl | rfl | rfl | rfl | rfl | rfl | rfl | rfl | rfl | rfl | rfl
    · simp only [Nat.reduceAdd]; rw [pm_row_off (by decide), pm_row_off (by decide), pm_row_off (by decide), pm_row_off (by decide), pm_row_off (by decide), pm_row_off (by decide), pm_row_off (by decide), pm_row_off (by decide), pm_row_off (by decide), pm_row_off (by decide), pm_row_off (by decide), pm_row_at]; unfold va_cpy; rw [if_pos (by omega), pm_set_off (by decide), pm_set_off (by decide), show 0 + (i - 0) = i from by omega]
    · simp only [Nat.reduceAdd]; rw [pm_row_off (by decide), pm_row_off (by decide), pm_row_off (by decide), pm_row_off (by decide), pm_row_off (by decide), pm_row_off (by decide), pm_row_off (by decide), pm_row_off (by decide), pm_row_off (by decide), pm_row_off (by decide), pm_row_at]; unfold va_cpy; rw [if_pos (by omega), pm_row_off (by decide), pm_set_off (by decide), pm_set_off (by decide), show 0 + (i - 0) = i from by omega]
    · simp only [Nat.reduceAdd]; rw [pm_row_off (by decide), pm_row_off (by decide), pm_row_off (by decide), pm_row_off (by decide), pm_row_off (by decide), pm_row_off (by decide), pm_row_off (by decide), pm_row_off (by decide), pm_row_off (by decide), pm_row_at]; unfold va_cpy; rw [if_pos (by omega), pm_row_off (by decide), pm_row_off (by decide), pm_set_off (by decide), pm_set_off (by decide), show 0 + (i - 0) = i from by omega]
    · simp only [Nat.reduceAdd]; rw [pm_row_off (by decide), pm_row_off (by decide), pm_row_off (by decide), pm_row_off (by decide), pm_row_off (by decide), pm_row_off (by decide), pm_row_off (by decide), pm_row_off (by decide), pm_row_at]; unfold va_cpy; rw [if_pos (by omega), pm_row_off (by decide), pm_row_off (by decide), pm_row_off (by decide), pm_set_off (by decide), pm_set_off (by decide), show 0 + (i - 0) = i from by omega]
    · simp only [Nat.reduceAdd]; rw [pm_row_off (by decide), pm_row_off (by decide), pm_row_off (by decide), pm_row_off (by decide), pm_row_off (by decide), pm_row_off (by decide), pm_row_off (by decide), pm_row_at]; unfold va_cpy; rw [if_pos (by omega), pm_row_off (by decide), pm_row_off (by decide), pm_row_off (by decide), pm_row_off (by decide), pm_set_off (by decide), pm_set_off (by decide), show 0 + (i - 0) = i from by omega]
    · simp only [Nat.reduceAdd]; rw [pm_row_off (by decide), pm_row_off (by decide), pm_row_off (by decide), pm_row_off (by decide), pm_row_off (by decide), pm_row_off (by decide), pm_row_at]; unfold va_cpy; rw [if_pos (by omega), pm_row_off (by decide), pm_row_off (by decide), pm_row_off (by decide), pm_row_off (by decide), pm_row_off (by decide), pm_set_off (by decide), pm_set_off (by decide), show 0 + (i - 0) = i from by omega]
    · simp only [Nat.reduceAdd]; rw [pm_row_off (by decide), pm_row_off (by decide), pm_row_off (by decide), pm_row_off (by decide), pm_row_off (by decide), pm_row_at]; unfold va_cpy; rw [if_pos (by omega), pm_row_off (by decide), pm_row_off (by decide), pm_row_off (by decide), pm_row_off (by decide), pm_row_off (by decide), pm_row_off (by decide), pm_set_off (by decide), pm_set_off (by decide), show 0 + (i - 0) = i from by omega]
    · simp only [Nat.reduceAdd]; rw [pm_row_off (by decide), pm_row_off (by decide), pm_row_off (by decide), pm_row_off (by decide), pm_row_at]; unfold va_cpy; rw [if_pos (by omega), pm_row_off (by decide), pm_row_off (by decide), pm_row_off (by decide), pm_row_off (by decide), pm_row_off (by decide), pm_row_off (by decide), pm_row_off (by decide), pm_set_off (by decide), pm_set_off (by decide), show 0 + (i - 0) = i from by omega]
    · simp only [Nat.reduceAdd]; rw [pm_row_off (by decide), pm_row_off (by decide), pm_row_off (by decide), pm_row_at]; unfold va_cpy; rw [if_pos (by omega), pm_row_off (by decide), pm_row_off (by decide), pm_row_off (by decide), pm_row_off (by decide), pm_row_off (by decide), pm_row_off (by decide), pm_row_off (by decide), pm_row_off (by decide), pm_set_off (by decide), pm_set_off (by decide), show 0 + (i - 0) = i from by omega]
    · simp only [Nat.reduceAdd]; rw [pm_row_off (by decide), pm_row_off (by decide), pm_row_at]; unfold va_cpy; rw [if_pos (by omega), pm_row_off (by decide), pm_row_off (by decide), pm_row_off (by decide), pm_row_off (by decide), pm_row_off (by decide), pm_row_off (by decide), pm_row_off (by decide), pm_row_off (by decide), pm_row_off (by decide), pm_set_off (by decide), pm_set_off (by decide), show 0 + (i - 0) = i from by omega]
    · simp only [Nat.reduceAdd]; rw [pm_row_off (by decide), pm_row_at]; unfold va_cpy; rw [if_pos (by omega), pm_row_off (by decide), pm_row_off (by decide), pm_row_off (by decide), pm_row_off (by decide), pm_row_off (by decide), pm_row_off (by decide), pm_row_off (by decide), pm_row_off (by decide), pm_row_off (by decide), pm_row_off (by decide), pm_set_off (by decide), pm_set_off (by decide), show 0 + (i - 0) = i from by omega]
    · simp only [Nat.reduceAdd]; rw [pm_row_at]; unfold va_cpy; rw [if_pos (by omega), pm_row_off (by decide), pm_row_off (by decide), pm_row_off (by decide), pm_row_off (by decide), pm_row_off (by decide), pm_row_off (by decide), pm_row_off (by decide), pm_row_off (by decide), pm_row_off (by decide), pm_row_off (by decide), pm_row_off (by decide), pm_set_off (by decide), pm_set_off (by decide), show 0 + (i - 0) = i from by omega])
set_option maxHeartbeats 4000000 in
set_option maxRecDepth 100000 in
theorem c_X5_copyFrom_1_213 {g : Nat → Int32} (μ : pm_Mm) (hR : lr_Rel μ.1 213 g) (hB : lr_B g) : pm_CT mi_X5_copyFrom [.ref 1, .ref 213] μ (fun v μ2 => v = none ∧ μ2.2 = μ.2 ∧ (∀ i, (i < 1 ∨ 39 < i) → μ2.1 i = μ.1 i) ∧ lr_Rel μ2.1 1 g) pm_NX := by
  refine pm_CT_of (lo := [some (.ref 1), some (.ref 213)]) (by decide +kernel) rfl rfl (by intro v hv; simp at hv; rcases hv with rfl | rfl <;> rfl) (Nat.le_of_ble_eq_true rfl) rfl ?_
  obtain ⟨hm1, hm3, hm2, hm4, hm5, hm6⟩ := id hB
  refine pm_bl [(.aload_n 0, 1, 0, 0, 0), (.getfield 12, 3, 5, 0, 0), (.aload_n 1, 1, 1, 0, 0), (.getfield 12, 3, 5, 0, 0)] (pc1 := 8) (lo1 := [some (.ref 1), some (.ref 213)]) (st1 := [.ref 214, .ref 2]) (μ1 := μ) (vc := True) rfl (by decide +kernel) rfl trivial ?_
  refine pm_callV2 mi_X3_copyFrom (ix := 61) (b := 2) (ci := 3) (kc2 := 0) (ks2 := 0) (As := [.ref 214]) (rest := []) (c_X3_copyFrom_1_213 μ hR.2.1 hm1) cal_X3_copyFrom lk5_61 (by decide +kernel) rfl (by decide +kernel) rfl rfl rfl rfl (Nat.le_of_ble_eq_true rfl) (by decide) (by decide) (fun _ _ h9 => h9.elim) ?_
  rintro _ μ1 ⟨rfl, x1, f1, r1⟩
  show pm_V _ _ _ _ 11 _ [] _
  refine pm_bl [(.aload_n 0, 1, 0, 0, 0), (.getfield 21, 3, 5, 1, 0), (.aload_n 1, 1, 1, 0, 0), (.getfield 21, 3, 5, 1, 0)] (pc1 := 19) (lo1 := [some (.ref 1), some (.ref 213)]) (st1 := [.ref 217, .ref 5]) (μ1 := μ1) (vc := True) rfl (by decide +kernel) rfl trivial ?_
  refine pm_callV2 mi_X6_copyFrom (ix := 65) (b := 5) (ci := 6) (kc2 := 0) (ks2 := 0) (As := [.ref 217]) (rest := []) (c_X6_copyFrom_1_213 μ1 (lr_Rp.st (b := 213) hR.2.2.1 hm3 (fun k h1 h2 => by rw [f1 _ (by omega)]) (fun _ _ _ => rfl)) hm3) cal_X6_copyFrom lk5_65 (by decide +kernel) rfl (by decide +kernel) rfl rfl rfl rfl (Nat.le_of_ble_eq_true rfl) (by decide) (by decide) (fun _ _ h9 => h9.elim) ?_
  rintro _ μ2 ⟨rfl, x2, f2, r2⟩
  show pm_V _ _ _ _ 22 _ [] _
  refine pm_bl [(.aload_n 0, 1, 0, 0, 0), (.getfield 28, 3, 5, 2, 0), (.aload_n 1, 1, 1, 0, 0), (.getfield 28, 3, 5, 2, 0)] (pc1 := 30) (lo1 := [some (.ref 1), some (.ref 213)]) (st1 := [.ref 222, .ref 10]) (μ1 := μ2) (vc := True) rfl (by decide +kernel) rfl trivial ?_
  refine pm_callV2 mi_X8_copyFrom (ix := 68) (b := 10) (ci := 8) (kc2 := 0) (ks2 := 0) (As := [.ref 222]) (rest := []) (c_X8_copyFrom_1_213 μ2 (lr_Rw.st (b := 213) hR.2.2.2.1 hm2 (fun k h1 h2 => by rw [f2 _ (by omega), f1 _ (by omega)]) (fun _ _ _ => rfl)) hm2) cal_X8_copyFrom lk5_68 (by decide +kernel) rfl (by decide +kernel) rfl rfl rfl rfl (Nat.le_of_ble_eq_true rfl) (by decide) (by decide) (fun _ _ h9 => h9.elim) ?_
  rintro _ μ3 ⟨rfl, x3, f3, r3⟩
  show pm_V _ _ _ _ 33 _ [] _
  refine pm_bl [(.aload_n 0, 1, 0, 0, 0), (.getfield 35, 3, 5, 3, 0), (.aload_n 1, 1, 1, 0, 0), (.getfield 35, 3, 5, 3, 0)] (pc1 := 41) (lo1 := [some (.ref 1), some (.ref 213)]) (st1 := [.ref 228, .ref 16]) (μ1 := μ3) (vc := True) rfl (by decide +kernel) rfl trivial ?_
  refine pm_callV2 mi_X7_copyFrom (ix := 71) (b := 16) (ci := 7) (kc2 := 0) (ks2 := 0) (As := [.ref 228]) (rest := []) (c_X7_copyFrom_1_213 μ3 (lr_Rr.st (b := 213) hR.2.2.2.2.1 hm4 (fun k h1 h2 => by rw [f3 _ (by omega), f2 _ (by omega), f1 _ (by omega)]) (fun _ _ _ => rfl)) hm4) cal_X7_copyFrom lk5_71 (by decide +kernel) rfl (by decide +kernel) rfl rfl rfl rfl (Nat.le_of_ble_eq_true rfl) (by decide) (by decide) (fun _ _ h9 => h9.elim) ?_
  rintro _ μ4 ⟨rfl, x4, f4, r4⟩
  show pm_V _ _ _ _ 44 _ [] _
  refine pm_bl [(.aload_n 0, 1, 0, 0, 0), (.getfield 42, 3, 5, 4, 0), (.aload_n 1, 1, 1, 0, 0), (.getfield 42, 3, 5, 4, 0)] (pc1 := 52) (lo1 := [some (.ref 1), some (.ref 213)]) (st1 := [.ref 234, .ref 22]) (μ1 := μ4) (vc := True) rfl (by decide +kernel) rfl trivial ?_
  refine pm_callV2 mi_X0_copyFrom (ix := 74) (b := 22) (ci := 0) (kc2 := 0) (ks2 := 0) (As := [.ref 234]) (rest := []) (c_X0_copyFrom_1_213 μ4 (lr_Ra.st (b := 213) hR.2.2.2.2.2.1 hm5 (fun k h1 h2 => by rw [f4 _ (by omega), f3 _ (by omega), f2 _ (by omega), f1 _ (by omega)]) (fun _ _ _ => rfl)) hm5) cal_X0_copyFrom lk5_74 (by decide +kernel) rfl (by decide +kernel) rfl rfl rfl rfl (Nat.le_of_ble_eq_true rfl) (by decide) (by decide) (fun _ _ h9 => h9.elim) ?_
  rintro _ μ5 ⟨rfl, x5, f5, r5⟩
  show pm_V _ _ _ _ 55 _ [] _
  refine pm_bl [(.aload_n 0, 1, 0, 0, 0), (.getfield 49, 3, 5, 5, 0), (.aload_n 1, 1, 1, 0, 0), (.getfield 49, 3, 5, 5, 0)] (pc1 := 63) (lo1 := [some (.ref 1), some (.ref 213)]) (st1 := [.ref 238, .ref 26]) (μ1 := μ5) (vc := True) rfl (by decide +kernel) rfl trivial ?_
  refine pm_callV2 mi_X4_copyFrom (ix := 77) (b := 26) (ci := 4) (kc2 := 0) (ks2 := 0) (As := [.ref 238]) (rest := []) (c_X4_copyFrom_1_213 μ5 (lr_Rl.st (b := 213) hR.2.2.2.2.2.2 hm6 (fun k h1 h2 => by rw [f5 _ (by omega), f4 _ (by omega), f3 _ (by omega), f2 _ (by omega), f1 _ (by omega)]) rfl (fun _ _ _ => rfl)) hm6) cal_X4_copyFrom lk5_77 (by decide +kernel) rfl (by decide +kernel) rfl rfl rfl rfl (Nat.le_of_ble_eq_true rfl) (by decide) (by decide) (fun _ _ h9 => h9.elim) ?_
  rintro _ μ6 ⟨rfl, x6, f6, r6⟩
  show pm_V _ _ _ _ 66 _ [] _
  refine pm_bl [(.aload_n 0, 1, 0, 0, 0), (.aload_n 1, 1, 1, 0, 0), (.getfield 53, 3, 5, 6, 0), (.putfield 53, 3, 5, 6, 0)] (pc1 := 74) (lo1 := [some (.ref 1), some (.ref 213)]) (st1 := []) (μ1 := pm_set μ6 1 6 (μ6.1 213 6)) (vc := True) rfl (by decide +kernel) rfl trivial ?_
  exact pm_vret rfl (by decide) (by decide) (by decide +kernel) (⟨rfl, (x6.trans (x5.trans (x4.trans (x3.trans (x2.trans x1))))), fun i hi => by rw [pm_set_off (by omega), f6 _ (by omega), f5 _ (by omega), f4 _ (by omega), f3 _ (by omega), f2 _ (by omega), f1 _ (by omega)], by rw [pm_set_hit, f6 _ (by omega), f5 _ (by omega), f4 _ (by omega), f3 _ (by omega), f2 _ (by omega), f1 _ (by omega)]; exact hR.1, lr_Rh.st (b := 1) r1 hm1 (fun k h1 h2 => by rw [pm_set_off (by omega), f6 _ (by omega), f5 _ (by omega), f4 _ (by omega), f3 _ (by omega), f2 _ (by omega)]) (fun _ _ _ => rfl), lr_Rp.st (b := 1) r2 hm3 (fun k h1 h2 => by rw [pm_set_off (by omega), f6 _ (by omega), f5 _ (by omega), f4 _ (by omega), f3 _ (by omega)]) (fun _ _ _ => rfl), lr_Rw.st (b := 1) r3 hm2 (fun k h1 h2 => by rw [pm_set_off (by omega), f6 _ (by omega), f5 _ (by omega), f4 _ (by omega)]) (fun _ _ _ => rfl), lr_Rr.st (b := 1) r4 hm4 (fun k h1 h2 => by rw [pm_set_off (by omega), f6 _ (by omega), f5 _ (by omega)]) (fun _ _ _ => rfl), lr_Ra.st (b := 1) r5 hm5 (fun k h1 h2 => by rw [pm_set_off (by omega), f6 _ (by omega)]) (fun _ _ _ => rfl), lr_Rl.st (b := 1) r6 hm6 (fun k h1 h2 => by rw [pm_set_off (by omega)]) rfl (fun _ _ _ => rfl)⟩)
set_option maxHeartbeats 4000000 in
set_option maxRecDepth 100000 in
theorem c_X3_copyFrom_1_252 {g : Nat → Int32} (μ : pm_Mm) (hX : lr_Rh μ.1 252 g) (hn : lr_n g 2 ≤ 16) : pm_CT mi_X3_copyFrom [.ref 2, .ref 253] μ (fun v μ2 => v = none ∧ μ2.2 = μ.2 ∧ (∀ i, (i < 2 ∨ 4 < i) → μ2.1 i = μ.1 i) ∧ lr_Rh μ2.1 1 g) pm_NX := by
  refine pm_CT_of (lo := [some (.ref 2), some (.ref 253)]) (by decide +kernel) rfl rfl (by intro v hv; simp at hv; rcases hv with rfl | rfl <;> rfl) (Nat.le_of_ble_eq_true rfl) rfl ?_
  refine pm_bl [(.aload_n 0, 1, 0, 0, 0), (.aload_n 1, 1, 1, 0, 0), (.getfield 9, 3, 3, 0, 0), (.putfield 9, 3, 3, 0, 0), (.aload_n 1, 1, 1, 0, 0), (.getfield 15, 3, 3, 1, 0), (.aload_n 0, 1, 0, 0, 0), (.getfield 15, 3, 3, 1, 0)] (pc1 := 16) (lo1 := [some (.ref 2), some (.ref 253)]) (st1 := [.ref 3, .ref 254]) (μ1 := pm_set μ 2 0 (μ.1 253 0)) (vc := True) rfl (by decide +kernel) rfl trivial ?_
  refine pm_callSN2 mi_X9_copyRow (ix := 22) (host := RX9) (kc2 := 0) (ks2 := 0) (As := [.ref 254, .ref 3]) (rest := []) (c_X9_copyRow (a := 254) (b := 3) (n := 16) (pm_set μ 2 0 (μ.1 253 0)) rfl rfl (by decide)) cal_X9_copyRow (by decide +kernel) (by decide +kernel) (by decide +kernel) rfl rfl (Nat.le_of_ble_eq_true rfl) (by decide) (by decide) ?_
  rintro _ μ1 ⟨rfl, e1⟩
  show pm_V _ _ _ _ 19 _ [] _
  refine pm_bl [(.aload_n 1, 1, 1, 0, 0), (.getfield 19, 3, 3, 2, 0), (.aload_n 0, 1, 0, 0, 0), (.getfield 19, 3, 3, 2, 0)] (pc1 := 27) (lo1 := [some (.ref 2), some (.ref 253)]) (st1 := [.ref 4, .ref 255]) (μ1 := μ1) (vc := True) rfl (by decide +kernel) rfl trivial ?_
  refine pm_callSN2 mi_X9_copyRow (ix := 22) (host := RX9) (kc2 := 0) (ks2 := 0) (As := [.ref 255, .ref 4]) (rest := []) (c_X9_copyRow (a := 255) (b := 4) (n := 16) μ1 rfl rfl (by decide)) cal_X9_copyRow (by decide +kernel) (by decide +kernel) (by decide +kernel) rfl rfl (Nat.le_of_ble_eq_true rfl) (by decide) (by decide) ?_
  rintro _ μ2 ⟨rfl, e2⟩
  show pm_V _ _ _ _ 30 _ [] _
  exact pm_vret rfl (by decide) (by decide) (by decide +kernel) (by
    subst e1; subst e2
    refine ⟨rfl, rfl, fun i hi => by rw [pm_row_off (by omega), pm_row_off (by omega), pm_set_off (by omega)], lr_Rh.mv (b := 252) (b2 := 1) hX hn (by simp only [Nat.reduceAdd]; rw [pm_row_off (by decide), pm_row_off (by decide), pm_set_hit]) (fun k i h1 h2 h3 => ?_) (fun _ _ _ => rfl)⟩
    rcases (show k = 2 ∨ k = 3 by omega) with rfl | rfl
    · simp only [Nat.reduceAdd]; rw [pm_row_off (by decide), pm_row_at]; unfold va_cpy; rw [if_pos (by omega), pm_set_off (by decide), show 0 + (i - 0) = i from by omega]
    · simp only [Nat.reduceAdd]; rw [pm_row_at]; unfold va_cpy; rw [if_pos (by omega), pm_row_off (by decide), pm_set_off (by decide), show 0 + (i - 0) = i from by omega])
set_option maxHeartbeats 4000000 in
set_option maxRecDepth 100000 in
theorem c_X6_copyFrom_1_252 {g : Nat → Int32} (μ : pm_Mm) (hX : lr_Rp μ.1 252 g) (hn : lr_n g 35 ≤ 20) : pm_CT mi_X6_copyFrom [.ref 5, .ref 256] μ (fun v μ2 => v = none ∧ μ2.2 = μ.2 ∧ (∀ i, (i < 5 ∨ 9 < i) → μ2.1 i = μ.1 i) ∧ lr_Rp μ2.1 1 g) pm_NX := by
  refine pm_CT_of (lo := [some (.ref 5), some (.ref 256)]) (by decide +kernel) rfl rfl (by intro v hv; simp at hv; rcases hv with rfl | rfl <;> rfl) (Nat.le_of_ble_eq_true rfl) rfl ?_
  refine pm_bl [(.aload_n 0, 1, 0, 0, 0), (.aload_n 1, 1, 1, 0, 0), (.getfield 9, 3, 6, 0, 0), (.putfield 9, 3, 6, 0, 0), (.aload_n 1, 1, 1, 0, 0), (.getfield 15, 3, 6, 1, 0), (.aload_n 0, 1, 0, 0, 0), (.getfield 15, 3, 6, 1, 0)] (pc1 := 16) (lo1 := [some (.ref 5), some (.ref 256)]) (st1 := [.ref 6, .ref 257]) (μ1 := pm_set μ 5 0 (μ.1 256 0)) (vc := True) rfl (by decide +kernel) rfl trivial ?_
  refine pm_callSN2 mi_X9_copyRow (ix := 28) (host := RX9) (kc2 := 0) (ks2 := 0) (As := [.ref 257, .ref 6]) (rest := []) (c_X9_copyRow (a := 257) (b := 6) (n := 20) (pm_set μ 5 0 (μ.1 256 0)) rfl rfl (by decide)) cal_X9_copyRow (by decide +kernel) (by decide +kernel) (by decide +kernel) rfl rfl (Nat.le_of_ble_eq_true rfl) (by decide) (by decide) ?_
  rintro _ μ1 ⟨rfl, e1⟩
  show pm_V _ _ _ _ 19 _ [] _
  refine pm_bl [(.aload_n 1, 1, 1, 0, 0), (.getfield 19, 3, 6, 2, 0), (.aload_n 0, 1, 0, 0, 0), (.getfield 19, 3, 6, 2, 0)] (pc1 := 27) (lo1 := [some (.ref 5), some (.ref 256)]) (st1 := [.ref 7, .ref 258]) (μ1 := μ1) (vc := True) rfl (by decide +kernel) rfl trivial ?_
  refine pm_callSN2 mi_X9_copyRow (ix := 28) (host := RX9) (kc2 := 0) (ks2 := 0) (As := [.ref 258, .ref 7]) (rest := []) (c_X9_copyRow (a := 258) (b := 7) (n := 20) μ1 rfl rfl (by decide)) cal_X9_copyRow (by decide +kernel) (by decide +kernel) (by decide +kernel) rfl rfl (Nat.le_of_ble_eq_true rfl) (by decide) (by decide) ?_
  rintro _ μ2 ⟨rfl, e2⟩
  show pm_V _ _ _ _ 30 _ [] _
  refine pm_bl [(.aload_n 1, 1, 1, 0, 0), (.getfield 22, 3, 6, 3, 0), (.aload_n 0, 1, 0, 0, 0), (.getfield 22, 3, 6, 3, 0)] (pc1 := 38) (lo1 := [some (.ref 5), some (.ref 256)]) (st1 := [.ref 8, .ref 259]) (μ1 := μ2) (vc := True) rfl (by decide +kernel) rfl trivial ?_
  refine pm_callSN2 mi_X9_copyRow (ix := 28) (host := RX9) (kc2 := 0) (ks2 := 0) (As := [.ref 259, .ref 8]) (rest := []) (c_X9_copyRow (a := 259) (b := 8) (n := 20) μ2 rfl rfl (by decide)) cal_X9_copyRow (by decide +kernel) (by decide +kernel) (by decide +kernel) rfl rfl (Nat.le_of_ble_eq_true rfl) (by decide) (by decide) ?_
  rintro _ μ3 ⟨rfl, e3⟩
  show pm_V _ _ _ _ 41 _ [] _
  refine pm_bl [(.aload_n 1, 1, 1, 0, 0), (.getfield 25, 3, 6, 4, 0), (.aload_n 0, 1, 0, 0, 0), (.getfield 25, 3, 6, 4, 0)] (pc1 := 49) (lo1 := [some (.ref 5), some (.ref 256)]) (st1 := [.ref 9, .ref 260]) (μ1 := μ3) (vc := True) rfl (by decide +kernel) rfl trivial ?_
  refine pm_callSN2 mi_X9_copyRow (ix := 28) (host := RX9) (kc2 := 0) (ks2 := 0) (As := [.ref 260, .ref 9]) (rest := []) (c_X9_copyRow (a := 260) (b := 9) (n := 20) μ3 rfl rfl (by decide)) cal_X9_copyRow (by decide +kernel) (by decide +kernel) (by decide +kernel) rfl rfl (Nat.le_of_ble_eq_true rfl) (by decide) (by decide) ?_
  rintro _ μ4 ⟨rfl, e4⟩
  show pm_V _ _ _ _ 52 _ [] _
  exact pm_vret rfl (by decide) (by decide) (by decide +kernel) (by
    subst e1; subst e2; subst e3; subst e4
    refine ⟨rfl, rfl, fun i hi => by rw [pm_row_off (by omega), pm_row_off (by omega), pm_row_off (by omega), pm_row_off (by omega), pm_set_off (by omega)], lr_Rp.mv (b := 252) (b2 := 1) hX hn (by simp only [Nat.reduceAdd]; rw [pm_row_off (by decide), pm_row_off (by decide), pm_row_off (by decide), pm_row_off (by decide), pm_set_hit]) (fun k i h1 h2 h3 => ?_) (fun _ _ _ => rfl)⟩
    rcases (show k = 5 ∨ k = 6 ∨ k = 7 ∨ k = 8 by omega) with rfl | rfl | rfl | rfl
    · simp only [Nat.reduceAdd]; rw [pm_row_off (by decide), pm_row_off (by decide), pm_row_off (by decide), pm_row_at]; unfold va_cpy; rw [if_pos (by omega), pm_set_off (by decide), show 0 + (i - 0) = i from by omega]
    · simp only [Nat.reduceAdd]; rw [pm_row_off (by decide), pm_row_off (by decide), pm_row_at]; unfold va_cpy; rw [if_pos (by omega), pm_row_off (by decide), pm_set_off (by decide), show 0 + (i - 0) = i from by omega]
    · simp only [Nat.reduceAdd]; rw [pm_row_off (by decide), pm_row_at]; unfold va_cpy; rw [if_pos (by omega), pm_row_off (by decide), pm_row_off (by decide), pm_set_off (by decide), show 0 + (i - 0) = i from by omega]
    · simp only [Nat.reduceAdd]; rw [pm_row_at]; unfold va_cpy; rw [if_pos (by omega), pm_row_off (by decide), pm_row_off (by decide), pm_row_off (by decide), pm_set_off (by decide), show 0 + (i - 0) = i from by omega])
set_option maxHeartbeats 4000000 in
set_option maxRecDepth 100000 in
theorem c_X8_copyFrom_1_252 {g : Nat → Int32} (μ : pm_Mm) (hX : lr_Rw μ.1 252 g) (hn : lr_n g 116 ≤ 10) : pm_CT mi_X8_copyFrom [.ref 10, .ref 261] μ (fun v μ2 => v = none ∧ μ2.2 = μ.2 ∧ (∀ i, (i < 10 ∨ 15 < i) → μ2.1 i = μ.1 i) ∧ lr_Rw μ2.1 1 g) pm_NX := by
  refine pm_CT_of (lo := [some (.ref 10), some (.ref 261)]) (by decide +kernel) rfl rfl (by intro v hv; simp at hv; rcases hv with rfl | rfl <;> rfl) (Nat.le_of_ble_eq_true rfl) rfl ?_
  refine pm_bl [(.aload_n 0, 1, 0, 0, 0), (.aload_n 1, 1, 1, 0, 0), (.getfield 9, 3, 8, 0, 0), (.putfield 9, 3, 8, 0, 0), (.aload_n 1, 1, 1, 0, 0), (.getfield 15, 3, 8, 1, 0), (.aload_n 0, 1, 0, 0, 0), (.getfield 15, 3, 8, 1, 0)] (pc1 := 16) (lo1 := [some (.ref 10), some (.ref 261)]) (st1 := [.ref 11, .ref 262]) (μ1 := pm_set μ 10 0 (μ.1 261 0)) (vc := True) rfl (by decide +kernel) rfl trivial ?_
  refine pm_callSN2 mi_X9_copyRow (ix := 31) (host := RX9) (kc2 := 0) (ks2 := 0) (As := [.ref 262, .ref 11]) (rest := []) (c_X9_copyRow (a := 262) (b := 11) (n := 10) (pm_set μ 10 0 (μ.1 261 0)) rfl rfl (by decide)) cal_X9_copyRow (by decide +kernel) (by decide +kernel) (by decide +kernel) rfl rfl (Nat.le_of_ble_eq_true rfl) (by decide) (by decide) ?_
  rintro _ μ1 ⟨rfl, e1⟩
  show pm_V _ _ _ _ 19 _ [] _
  refine pm_bl [(.aload_n 1, 1, 1, 0, 0), (.getfield 19, 3, 8, 2, 0), (.aload_n 0, 1, 0, 0, 0), (.getfield 19, 3, 8, 2, 0)] (pc1 := 27) (lo1 := [some (.ref 10), some (.ref 261)]) (st1 := [.ref 12, .ref 263]) (μ1 := μ1) (vc := True) rfl (by decide +kernel) rfl trivial ?_
  refine pm_callSN2 mi_X9_copyRow (ix := 31) (host := RX9) (kc2 := 0) (ks2 := 0) (As := [.ref 263, .ref 12]) (rest := []) (c_X9_copyRow (a := 263) (b := 12) (n := 10) μ1 rfl rfl (by decide)) cal_X9_copyRow (by decide +kernel) (by decide +kernel) (by decide +kernel) rfl rfl (Nat.le_of_ble_eq_true rfl) (by decide) (by decide) ?_
  rintro _ μ2 ⟨rfl, e2⟩
  show pm_V _ _ _ _ 30 _ [] _
  refine pm_bl [(.aload_n 1, 1, 1, 0, 0), (.getfield 22, 3, 8, 3, 0), (.aload_n 0, 1, 0, 0, 0), (.getfield 22, 3, 8, 3, 0)] (pc1 := 38) (lo1 := [some (.ref 10), some (.ref 261)]) (st1 := [.ref 13, .ref 264]) (μ1 := μ2) (vc := True) rfl (by decide +kernel) rfl trivial ?_
  refine pm_callSN2 mi_X9_copyRow (ix := 31) (host := RX9) (kc2 := 0) (ks2 := 0) (As := [.ref 264, .ref 13]) (rest := []) (c_X9_copyRow (a := 264) (b := 13) (n := 10) μ2 rfl rfl (by decide)) cal_X9_copyRow (by decide +kernel) (by decide +kernel) (by decide +kernel) rfl rfl (Nat.le_of_ble_eq_true rfl) (by decide) (by decide) ?_
  rintro _ μ3 ⟨rfl, e3⟩
  show pm_V _ _ _ _ 41 _ [] _
  refine pm_bl [(.aload_n 1, 1, 1, 0, 0), (.getfield 25, 3, 8, 4, 0), (.aload_n 0, 1, 0, 0, 0), (.getfield 25, 3, 8, 4, 0)] (pc1 := 49) (lo1 := [some (.ref 10), some (.ref 261)]) (st1 := [.ref 14, .ref 265]) (μ1 := μ3) (vc := True) rfl (by decide +kernel) rfl trivial ?_
  refine pm_callSN2 mi_X9_copyRow (ix := 31) (host := RX9) (kc2 := 0) (ks2 := 0) (As := [.ref 265, .ref 14]) (rest := []) (c_X9_copyRow (a := 265) (b := 14) (n := 10) μ3 rfl rfl (by decide)) cal_X9_copyRow (by decide +kernel) (by decide +kernel) (by decide +kernel) rfl rfl (Nat.le_of_ble_eq_true rfl) (by decide) (by decide) ?_
  rintro _ μ4 ⟨rfl, e4⟩
  show pm_V _ _ _ _ 52 _ [] _
  refine pm_bl [(.aload_n 1, 1, 1, 0, 0), (.getfield 28, 3, 8, 5, 0), (.aload_n 0, 1, 0, 0, 0), (.getfield 28, 3, 8, 5, 0)] (pc1 := 60) (lo1 := [some (.ref 10), some (.ref 261)]) (st1 := [.ref 15, .ref 266]) (μ1 := μ4) (vc := True) rfl (by decide +kernel) rfl trivial ?_
  refine pm_callSN2 mi_X9_copyRow (ix := 31) (host := RX9) (kc2 := 0) (ks2 := 0) (As := [.ref 266, .ref 15]) (rest := []) (c_X9_copyRow (a := 266) (b := 15) (n := 10) μ4 rfl rfl (by decide)) cal_X9_copyRow (by decide +kernel) (by decide +kernel) (by decide +kernel) rfl rfl (Nat.le_of_ble_eq_true rfl) (by decide) (by decide) ?_
  rintro _ μ5 ⟨rfl, e5⟩
  show pm_V _ _ _ _ 63 _ [] _
  exact pm_vret rfl (by decide) (by decide) (by decide +kernel) (by
    subst e1; subst e2; subst e3; subst e4; subst e5
    refine ⟨rfl, rfl, fun i hi => by rw [pm_row_off (by omega), pm_row_off (by omega), pm_row_off (by omega), pm_row_off (by omega), pm_row_off (by omega), pm_set_off (by omega)], lr_Rw.mv (b := 252) (b2 := 1) hX hn (by simp only [Nat.reduceAdd]; rw [pm_row_off (by decide), pm_row_off (by decide), pm_row_off (by decide), pm_row_off (by decide), pm_row_off (by decide), pm_set_hit]) (fun k i h1 h2 h3 => ?_) (fun _ _ _ => rfl)⟩
    rcases (show k = 10 ∨ k = 11 ∨ k = 12 ∨ k = 13 ∨ k = 14 by omega) with rfl | rfl | rfl | rfl | rfl
    · simp only [Nat.reduceAdd]; rw [pm_row_off (by decide), pm_row_off (by decide), pm_row_off (by decide), pm_row_off (by decide), pm_row_at]; unfold va_cpy; rw [if_pos (by omega), pm_set_off (by decide), show 0 + (i - 0) = i from by omega]
    · simp only [Nat.reduceAdd]; rw [pm_row_off (by decide), pm_row_off (by decide), pm_row_off (by decide), pm_row_at]; unfold va_cpy; rw [if_pos (by omega), pm_row_off (by decide), pm_set_off (by decide), show 0 + (i - 0) = i from by omega]
    · simp only [Nat.reduceAdd]; rw [pm_row_off (by decide), pm_row_off (by decide), pm_row_at]; unfold va_cpy; rw [if_pos (by omega), pm_row_off (by decide), pm_row_off (by decide), pm_set_off (by decide), show 0 + (i - 0) = i from by omega]
    · simp only [Nat.reduceAdd]; rw [pm_row_off (by decide), pm_row_at]; unfold va_cpy; rw [if_pos (by omega), pm_row_off (by decide), pm_row_off (by decide), pm_row_off (by decide), pm_set_off (by decide), show 0 + (i - 0) = i from by omega]
    · simp only [Nat.reduceAdd]; rw [pm_row_at]; unfold va_cpy; rw [if_pos (by omega), pm_row_off (by decide), pm_row_off (by decide), pm_row_off (by decide), pm_row_off (by decide), pm_set_off (by decide), show 0 + (i - 0) = i from by omega])
set_option maxHeartbeats 4000000 in
set_option maxRecDepth 100000 in
theorem c_X7_copyFrom_1_252 {g : Nat → Int32} (μ : pm_Mm) (hX : lr_Rr μ.1 252 g) (hn : lr_n g 167 ≤ 12) : pm_CT mi_X7_copyFrom [.ref 16, .ref 267] μ (fun v μ2 => v = none ∧ μ2.2 = μ.2 ∧ (∀ i, (i < 16 ∨ 21 < i) → μ2.1 i = μ.1 i) ∧ lr_Rr μ2.1 1 g) pm_NX := by
  refine pm_CT_of (lo := [some (.ref 16), some (.ref 267)]) (by decide +kernel) rfl rfl (by intro v hv; simp at hv; rcases hv with rfl | rfl <;> rfl) (Nat.le_of_ble_eq_true rfl) rfl ?_
  refine pm_bl [(.aload_n 0, 1, 0, 0, 0), (.aload_n 1, 1, 1, 0, 0), (.getfield 9, 3, 7, 0, 0), (.putfield 9, 3, 7, 0, 0), (.aload_n 1, 1, 1, 0, 0), (.getfield 15, 3, 7, 1, 0), (.aload_n 0, 1, 0, 0, 0), (.getfield 15, 3, 7, 1, 0)] (pc1 := 16) (lo1 := [some (.ref 16), some (.ref 267)]) (st1 := [.ref 17, .ref 268]) (μ1 := pm_set μ 16 0 (μ.1 267 0)) (vc := True) rfl (by decide +kernel) rfl trivial ?_
  refine pm_callSN2 mi_X9_copyRow (ix := 31) (host := RX9) (kc2 := 0) (ks2 := 0) (As := [.ref 268, .ref 17]) (rest := []) (c_X9_copyRow (a := 268) (b := 17) (n := 12) (pm_set μ 16 0 (μ.1 267 0)) rfl rfl (by decide)) cal_X9_copyRow (by decide +kernel) (by decide +kernel) (by decide +kernel) rfl rfl (Nat.le_of_ble_eq_true rfl) (by decide) (by decide) ?_
  rintro _ μ1 ⟨rfl, e1⟩
  show pm_V _ _ _ _ 19 _ [] _
  refine pm_bl [(.aload_n 1, 1, 1, 0, 0), (.getfield 19, 3, 7, 2, 0), (.aload_n 0, 1, 0, 0, 0), (.getfield 19, 3, 7, 2, 0)] (pc1 := 27) (lo1 := [some (.ref 16), some (.ref 267)]) (st1 := [.ref 18, .ref 269]) (μ1 := μ1) (vc := True) rfl (by decide +kernel) rfl trivial ?_
  refine pm_callSN2 mi_X9_copyRow (ix := 31) (host := RX9) (kc2 := 0) (ks2 := 0) (As := [.ref 269, .ref 18]) (rest := []) (c_X9_copyRow (a := 269) (b := 18) (n := 12) μ1 rfl rfl (by decide)) cal_X9_copyRow (by decide +kernel) (by decide +kernel) (by decide +kernel) rfl rfl (Nat.le_of_ble_eq_true rfl) (by decide) (by decide) ?_
  rintro _ μ2 ⟨rfl, e2⟩
  show pm_V _ _ _ _ 30 _ [] _
  refine pm_bl [(.aload_n 1, 1, 1, 0, 0), (.getfield 22, 3, 7, 3, 0), (.aload_n 0, 1, 0, 0, 0), (.getfield 22, 3, 7, 3, 0)] (pc1 := 38) (lo1 := [some (.ref 16), some (.ref 267)]) (st1 := [.ref 19, .ref 270]) (μ1 := μ2) (vc := True) rfl (by decide +kernel) rfl trivial ?_
  refine pm_callSN2 mi_X9_copyRow (ix := 31) (host := RX9) (kc2 := 0) (ks2 := 0) (As := [.ref 270, .ref 19]) (rest := []) (c_X9_copyRow (a := 270) (b := 19) (n := 12) μ2 rfl rfl (by decide)) cal_X9_copyRow (by decide +kernel) (by decide +kernel) (by decide +kernel) rfl rfl (Nat.le_of_ble_eq_true rfl) (by decide) (by decide) ?_
  rintro _ μ3 ⟨rfl, e3⟩
  show pm_V _ _ _ _ 41 _ [] _
  refine pm_bl [(.aload_n 1, 1, 1, 0, 0), (.getfield 25, 3, 7, 4, 0), (.aload_n 0, 1, 0, 0, 0), (.getfield 25, 3, 7, 4, 0)] (pc1 := 49) (lo1 := [some (.ref 16), some (.ref 267)]) (st1 := [.ref 20, .ref 271]) (μ1 := μ3) (vc := True) rfl (by decide +kernel) rfl trivial ?_
  refine pm_callSN2 mi_X9_copyRow (ix := 31) (host := RX9) (kc2 := 0) (ks2 := 0) (As := [.ref 271, .ref 20]) (rest := []) (c_X9_copyRow (a := 271) (b := 20) (n := 12) μ3 rfl rfl (by decide)) cal_X9_copyRow (by decide +kernel) (by decide +kernel) (by decide +kernel) rfl rfl (Nat.le_of_ble_eq_true rfl) (by decide) (by decide) ?_
  rintro _ μ4 ⟨rfl, e4⟩
  show pm_V _ _ _ _ 52 _ [] _
  refine pm_bl [(.aload_n 1, 1, 1, 0, 0), (.getfield 28, 3, 7, 5, 0), (.aload_n 0, 1, 0, 0, 0), (.getfield 28, 3, 7, 5, 0)] (pc1 := 60) (lo1 := [some (.ref 16), some (.ref 267)]) (st1 := [.ref 21, .ref 272]) (μ1 := μ4) (vc := True) rfl (by decide +kernel) rfl trivial ?_
  refine pm_callSN2 mi_X9_copyRow (ix := 31) (host := RX9) (kc2 := 0) (ks2 := 0) (As := [.ref 272, .ref 21]) (rest := []) (c_X9_copyRow (a := 272) (b := 21) (n := 12) μ4 rfl rfl (by decide)) cal_X9_copyRow (by decide +kernel) (by decide +kernel) (by decide +kernel) rfl rfl (Nat.le_of_ble_eq_true rfl) (by decide) (by decide) ?_
  rintro _ μ5 ⟨rfl, e5⟩
  show pm_V _ _ _ _ 63 _ [] _
  exact pm_vret rfl (by decide) (by decide) (by decide +kernel) (by
    subst e1; subst e2; subst e3; subst e4; subst e5
    refine ⟨rfl, rfl, fun i hi => by rw [pm_row_off (by omega), pm_row_off (by omega), pm_row_off (by omega), pm_row_off (by omega), pm_row_off (by omega), pm_set_off (by omega)], lr_Rr.mv (b := 252) (b2 := 1) hX hn (by simp only [Nat.reduceAdd]; rw [pm_row_off (by decide), pm_row_off (by decide), pm_row_off (by decide), pm_row_off (by decide), pm_row_off (by decide), pm_set_hit]) (fun k i h1 h2 h3 => ?_) (fun _ _ _ => rfl)⟩
    rcases (show k = 16 ∨ k = 17 ∨ k = 18 ∨ k = 19 ∨ k = 20 by omega) with rfl | rfl | rfl | rfl | rfl
    · simp only [Nat.reduceAdd]; rw [pm_row_off (by decide), pm_row_off (by decide), pm_row_off (by decide), pm_row_off (by decide), pm_row_at]; unfold va_cpy; rw [if_pos (by omega), pm_set_off (by decide), show 0 + (i - 0) = i from by omega]
    · simp only [Nat.reduceAdd]; rw [pm_row_off (by decide), pm_row_off (by decide), pm_row_off (by decide), pm_row_at]; unfold va_cpy; rw [if_pos (by omega), pm_row_off (by decide), pm_set_off (by decide), show 0 + (i - 0) = i from by omega]
    · simp only [Nat.reduceAdd]; rw [pm_row_off (by decide), pm_row_off (by decide), pm_row_at]; unfold va_cpy; rw [if_pos (by omega), pm_row_off (by decide), pm_row_off (by decide), pm_set_off (by decide), show 0 + (i - 0) = i from by omega]
    · simp only [Nat.reduceAdd]; rw [pm_row_off (by decide), pm_row_at]; unfold va_cpy; rw [if_pos (by omega), pm_row_off (by decide), pm_row_off (by decide), pm_row_off (by decide), pm_set_off (by decide), show 0 + (i - 0) = i from by omega]
    · simp only [Nat.reduceAdd]; rw [pm_row_at]; unfold va_cpy; rw [if_pos (by omega), pm_row_off (by decide), pm_row_off (by decide), pm_row_off (by decide), pm_row_off (by decide), pm_set_off (by decide), show 0 + (i - 0) = i from by omega])
set_option maxHeartbeats 4000000 in
set_option maxRecDepth 100000 in
theorem c_X0_copyFrom_1_252 {g : Nat → Int32} (μ : pm_Mm) (hX : lr_Ra μ.1 252 g) (hn : lr_n g 228 ≤ 20) : pm_CT mi_X0_copyFrom [.ref 22, .ref 273] μ (fun v μ2 => v = none ∧ μ2.2 = μ.2 ∧ (∀ i, (i < 22 ∨ 25 < i) → μ2.1 i = μ.1 i) ∧ lr_Ra μ2.1 1 g) pm_NX := by
  refine pm_CT_of (lo := [some (.ref 22), some (.ref 273)]) (by decide +kernel) rfl rfl (by intro v hv; simp at hv; rcases hv with rfl | rfl <;> rfl) (Nat.le_of_ble_eq_true rfl) rfl ?_
  refine pm_bl [(.aload_n 0, 1, 0, 0, 0), (.aload_n 1, 1, 1, 0, 0), (.getfield 9, 3, 0, 0, 0), (.putfield 9, 3, 0, 0, 0), (.aload_n 1, 1, 1, 0, 0), (.getfield 15, 3, 0, 1, 0), (.aload_n 0, 1, 0, 0, 0), (.getfield 15, 3, 0, 1, 0)] (pc1 := 16) (lo1 := [some (.ref 22), some (.ref 273)]) (st1 := [.ref 23, .ref 274]) (μ1 := pm_set μ 22 0 (μ.1 273 0)) (vc := True) rfl (by decide +kernel) rfl trivial ?_
  refine pm_callSN2 mi_X9_copyRow (ix := 25) (host := RX9) (kc2 := 0) (ks2 := 0) (As := [.ref 274, .ref 23]) (rest := []) (c_X9_copyRow (a := 274) (b := 23) (n := 20) (pm_set μ 22 0 (μ.1 273 0)) rfl rfl (by decide)) cal_X9_copyRow (by decide +kernel) (by decide +kernel) (by decide +kernel) rfl rfl (Nat.le_of_ble_eq_true rfl) (by decide) (by decide) ?_
  rintro _ μ1 ⟨rfl, e1⟩
  show pm_V _ _ _ _ 19 _ [] _
  refine pm_bl [(.aload_n 1, 1, 1, 0, 0), (.getfield 19, 3, 0, 2, 0), (.aload_n 0, 1, 0, 0, 0), (.getfield 19, 3, 0, 2, 0)] (pc1 := 27) (lo1 := [some (.ref 22), some (.ref 273)]) (st1 := [.ref 24, .ref 275]) (μ1 := μ1) (vc := True) rfl (by decide +kernel) rfl trivial ?_
  refine pm_callSN2 mi_X9_copyRow (ix := 25) (host := RX9) (kc2 := 0) (ks2 := 0) (As := [.ref 275, .ref 24]) (rest := []) (c_X9_copyRow (a := 275) (b := 24) (n := 20) μ1 rfl rfl (by decide)) cal_X9_copyRow (by decide +kernel) (by decide +kernel) (by decide +kernel) rfl rfl (Nat.le_of_ble_eq_true rfl) (by decide) (by decide) ?_
  rintro _ μ2 ⟨rfl, e2⟩
  show pm_V _ _ _ _ 30 _ [] _
  refine pm_bl [(.aload_n 1, 1, 1, 0, 0), (.getfield 22, 3, 0, 3, 0), (.aload_n 0, 1, 0, 0, 0), (.getfield 22, 3, 0, 3, 0)] (pc1 := 38) (lo1 := [some (.ref 22), some (.ref 273)]) (st1 := [.ref 25, .ref 276]) (μ1 := μ2) (vc := True) rfl (by decide +kernel) rfl trivial ?_
  refine pm_callSN2 mi_X9_copyRow (ix := 25) (host := RX9) (kc2 := 0) (ks2 := 0) (As := [.ref 276, .ref 25]) (rest := []) (c_X9_copyRow (a := 276) (b := 25) (n := 20) μ2 rfl rfl (by decide)) cal_X9_copyRow (by decide +kernel) (by decide +kernel) (by decide +kernel) rfl rfl (Nat.le_of_ble_eq_true rfl) (by decide) (by decide) ?_
  rintro _ μ3 ⟨rfl, e3⟩
  show pm_V _ _ _ _ 41 _ [] _
  exact pm_vret rfl (by decide) (by decide) (by decide +kernel) (by
    subst e1; subst e2; subst e3
    refine ⟨rfl, rfl, fun i hi => by rw [pm_row_off (by omega), pm_row_off (by omega), pm_row_off (by omega), pm_set_off (by omega)], lr_Ra.mv (b := 252) (b2 := 1) hX hn (by simp only [Nat.reduceAdd]; rw [pm_row_off (by decide), pm_row_off (by decide), pm_row_off (by decide), pm_set_hit]) (fun k i h1 h2 h3 => ?_) (fun _ _ _ => rfl)⟩
    rcases (show k = 22 ∨ k = 23 ∨ k = 24 by omega) with rfl | rfl | rfl
    · simp only [Nat.reduceAdd]; rw [pm_row_off (by decide), pm_row_off (by decide), pm_row_at]; unfold va_cpy; rw [if_pos (by omega), pm_set_off (by decide), show 0 + (i - 0) = i from by omega]
    · simp only [Nat.reduceAdd]; rw [pm_row_off (by decide), pm_row_at]; unfold va_cpy; rw [if_pos (by omega), pm_row_off (by decide), pm_set_off (by decide), show 0 + (i - 0) = i from by omega]
    · simp only [Nat.reduceAdd]; rw [pm_row_at]; unfold va_cpy; rw [if_pos (by omega), pm_row_off (by decide), pm_row_off (by decide), pm_set_off (by decide), show 0 + (i - 0) = i from by omega])
set_option maxHeartbeats 4000000 in
set_option maxRecDepth 100000 in
theorem c_X4_copyFrom_1_252 {g : Nat → Int32} (μ : pm_Mm) (hX : lr_Rl μ.1 252 g) (hn : lr_n g 289 ≤ 30) : pm_CT mi_X4_copyFrom [.ref 26, .ref 277] μ (fun v μ2 => v = none ∧ μ2.2 = μ.2 ∧ (∀ i, (i < 26 ∨ 38 < i) → μ2.1 i = μ.1 i) ∧ lr_Rl μ2.1 1 g) pm_NX := by
  refine pm_CT_of (lo := [some (.ref 26), some (.ref 277)]) (by decide +kernel) rfl rfl (by intro v hv; simp at hv; rcases hv with rfl | rfl <;> rfl) (Nat.le_of_ble_eq_true rfl) rfl ?_
  refine pm_bl [(.aload_n 0, 1, 0, 0, 0), (.aload_n 1, 1, 1, 0, 0), (.getfield 9, 3, 4, 0, 0), (.putfield 9, 3, 4, 0, 0), (.aload_n 0, 1, 0, 0, 0), (.aload_n 1, 1, 1, 0, 0), (.getfield 15, 3, 4, 1, 0), (.putfield 15, 3, 4, 1, 0), (.aload_n 1, 1, 1, 0, 0), (.getfield 18, 3, 4, 2, 0), (.aload_n 0, 1, 0, 0, 0), (.getfield 18, 3, 4, 2, 0)] (pc1 := 24) (lo1 := [some (.ref 26), some (.ref 277)]) (st1 := [.ref 27, .ref 278]) (μ1 := pm_set (pm_set μ 26 0 (μ.1 277 0)) 26 1 ((pm_set μ 26 0 (μ.1 277 0)).1 277 1)) (vc := True) rfl (by decide +kernel) rfl trivial ?_
  rw [show (pm_set μ 26 0 (μ.1 277 0)).1 277 1 = μ.1 277 1 from by simp [pm_set]]
  refine pm_callSN2 mi_X9_copyRow (ix := 55) (host := RX9) (kc2 := 0) (ks2 := 0) (As := [.ref 278, .ref 27]) (rest := []) (c_X9_copyRow (a := 278) (b := 27) (n := 30) (pm_set (pm_set μ 26 0 (μ.1 277 0)) 26 1 (μ.1 277 1)) rfl rfl (by decide)) cal_X9_copyRow (by decide +kernel) (by decide +kernel) (by decide +kernel) rfl rfl (Nat.le_of_ble_eq_true rfl) (by decide) (by decide) ?_
  rintro _ μ1 ⟨rfl, e1⟩
  show pm_V _ _ _ _ 27 _ [] _
  refine pm_bl [(.aload_n 1, 1, 1, 0, 0), (.getfield 22, 3, 4, 3, 0), (.aload_n 0, 1, 0, 0, 0), (.getfield 22, 3, 4, 3, 0)] (pc1 := 35) (lo1 := [some (.ref 26), some (.ref 277)]) (st1 := [.ref 28, .ref 279]) (μ1 := μ1) (vc := True) rfl (by decide +kernel) rfl trivial ?_
  refine pm_callSN2 mi_X9_copyRow (ix := 55) (host := RX9) (kc2 := 0) (ks2 := 0) (As := [.ref 279, .ref 28]) (rest := []) (c_X9_copyRow (a := 279) (b := 28) (n := 30) μ1 rfl rfl (by decide)) cal_X9_copyRow (by decide +kernel) (by decide +kernel) (by decide +kernel) rfl rfl (Nat.le_of_ble_eq_true rfl) (by decide) (by decide) ?_
  rintro _ μ2 ⟨rfl, e2⟩
  show pm_V _ _ _ _ 38 _ [] _
  refine pm_bl [(.aload_n 1, 1, 1, 0, 0), (.getfield 25, 3, 4, 4, 0), (.aload_n 0, 1, 0, 0, 0), (.getfield 25, 3, 4, 4, 0)] (pc1 := 46) (lo1 := [some (.ref 26), some (.ref 277)]) (st1 := [.ref 29, .ref 280]) (μ1 := μ2) (vc := True) rfl (by decide +kernel) rfl trivial ?_
  refine pm_callSN2 mi_X9_copyRow (ix := 55) (host := RX9) (kc2 := 0) (ks2 := 0) (As := [.ref 280, .ref 29]) (rest := []) (c_X9_copyRow (a := 280) (b := 29) (n := 30) μ2 rfl rfl (by decide)) cal_X9_copyRow (by decide +kernel) (by decide +kernel) (by decide +kernel) rfl rfl (Nat.le_of_ble_eq_true rfl) (by decide) (by decide) ?_
  rintro _ μ3 ⟨rfl, e3⟩
  show pm_V _ _ _ _ 49 _ [] _
  refine pm_bl [(.aload_n 1, 1, 1, 0, 0), (.getfield 28, 3, 4, 5, 0), (.aload_n 0, 1, 0, 0, 0), (.getfield 28, 3, 4, 5, 0)] (pc1 := 57) (lo1 := [some (.ref 26), some (.ref 277)]) (st1 := [.ref 30, .ref 281]) (μ1 := μ3) (vc := True) rfl (by decide +kernel) rfl trivial ?_
  refine pm_callSN2 mi_X9_copyRow (ix := 55) (host := RX9) (kc2 := 0) (ks2 := 0) (As := [.ref 281, .ref 30]) (rest := []) (c_X9_copyRow (a := 281) (b := 30) (n := 30) μ3 rfl rfl (by decide)) cal_X9_copyRow (by decide +kernel) (by decide +kernel) (by decide +kernel) rfl rfl (Nat.le_of_ble_eq_true rfl) (by decide) (by decide) ?_
  rintro _ μ4 ⟨rfl, e4⟩
  show pm_V _ _ _ _ 60 _ [] _
  refine pm_bl [(.aload_n 1, 1, 1, 0, 0), (.getfield 31, 3, 4, 6, 0), (.aload_n 0, 1, 0, 0, 0), (.getfield 31, 3, 4, 6, 0)] (pc1 := 68) (lo1 := [some (.ref 26), some (.ref 277)]) (st1 := [.ref 31, .ref 282]) (μ1 := μ4) (vc := True) rfl (by decide +kernel) rfl trivial ?_
  refine pm_callSN2 mi_X9_copyRow (ix := 55) (host := RX9) (kc2 := 0) (ks2 := 0) (As := [.ref 282, .ref 31]) (rest := []) (c_X9_copyRow (a := 282) (b := 31) (n := 30) μ4 rfl rfl (by decide)) cal_X9_copyRow (by decide +kernel) (by decide +kernel) (by decide +kernel) rfl rfl (Nat.le_of_ble_eq_true rfl) (by decide) (by decide) ?_
  rintro _ μ5 ⟨rfl, e5⟩
  show pm_V _ _ _ _ 71 _ [] _
  refine pm_bl [(.aload_n 1, 1, 1, 0, 0), (.getfield 34, 3, 4, 7, 0), (.aload_n 0, 1, 0, 0, 0), (.getfield 34, 3, 4, 7, 0)] (pc1 := 79) (lo1 := [some (.ref 26), some (.ref 277)]) (st1 := [.ref 32, .ref 283]) (μ1 := μ5) (vc := True) rfl (by decide +kernel) rfl trivial ?_
  refine pm_callSN2 mi_X9_copyRow (ix := 55) (host := RX9) (kc2 := 0) (ks2 := 0) (As := [.ref 283, .ref 32]) (rest := []) (c_X9_copyRow (a := 283) (b := 32) (n := 30) μ5 rfl rfl (by decide)) cal_X9_copyRow (by decide +kernel) (by decide +kernel) (by decide +kernel) rfl rfl (Nat.le_of_ble_eq_true rfl) (by decide) (by decide) ?_
  rintro _ μ6 ⟨rfl, e6⟩
  show pm_V _ _ _ _ 82 _ [] _
  refine pm_bl [(.aload_n 1, 1, 1, 0, 0), (.getfield 37, 3, 4, 8, 0), (.aload_n 0, 1, 0, 0, 0), (.getfield 37, 3, 4, 8, 0)] (pc1 := 90) (lo1 := [some (.ref 26), some (.ref 277)]) (st1 := [.ref 33, .ref 284]) (μ1 := μ6) (vc := True) rfl (by decide +kernel) rfl trivial ?_
  refine pm_callSN2 mi_X9_copyRow (ix := 55) (host := RX9) (kc2 := 0) (ks2 := 0) (As := [.ref 284, .ref 33]) (rest := []) (c_X9_copyRow (a := 284) (b := 33) (n := 30) μ6 rfl rfl (by decide)) cal_X9_copyRow (by decide +kernel) (by decide +kernel) (by decide +kernel) rfl rfl (Nat.le_of_ble_eq_true rfl) (by decide) (by decide) ?_
  rintro _ μ7 ⟨rfl, e7⟩
  show pm_V _ _ _ _ 93 _ [] _
  refine pm_bl [(.aload_n 1, 1, 1, 0, 0), (.getfield 40, 3, 4, 9, 0), (.aload_n 0, 1, 0, 0, 0), (.getfield 40, 3, 4, 9, 0)] (pc1 := 101) (lo1 := [some (.ref 26), some (.ref 277)]) (st1 := [.ref 34, .ref 285]) (μ1 := μ7) (vc := True) rfl (by decide +kernel) rfl trivial ?_
  refine pm_callSN2 mi_X9_copyRow (ix := 55) (host := RX9) (kc2 := 0) (ks2 := 0) (As := [.ref 285, .ref 34]) (rest := []) (c_X9_copyRow (a := 285) (b := 34) (n := 30) μ7 rfl rfl (by decide)) cal_X9_copyRow (by decide +kernel) (by decide +kernel) (by decide +kernel) rfl rfl (Nat.le_of_ble_eq_true rfl) (by decide) (by decide) ?_
  rintro _ μ8 ⟨rfl, e8⟩
  show pm_V _ _ _ _ 104 _ [] _
  refine pm_bl [(.aload_n 1, 1, 1, 0, 0), (.getfield 43, 3, 4, 10, 0), (.aload_n 0, 1, 0, 0, 0), (.getfield 43, 3, 4, 10, 0)] (pc1 := 112) (lo1 := [some (.ref 26), some (.ref 277)]) (st1 := [.ref 35, .ref 286]) (μ1 := μ8) (vc := True) rfl (by decide +kernel) rfl trivial ?_
  refine pm_callSN2 mi_X9_copyRow (ix := 55) (host := RX9) (kc2 := 0) (ks2 := 0) (As := [.ref 286, .ref 35]) (rest := []) (c_X9_copyRow (a := 286) (b := 35) (n := 30) μ8 rfl rfl (by decide)) cal_X9_copyRow (by decide +kernel) (by decide +kernel) (by decide +kernel) rfl rfl (Nat.le_of_ble_eq_true rfl) (by decide) (by decide) ?_
  rintro _ μ9 ⟨rfl, e9⟩
  show pm_V _ _ _ _ 115 _ [] _
  refine pm_bl [(.aload_n 1, 1, 1, 0, 0), (.getfield 46, 3, 4, 11, 0), (.aload_n 0, 1, 0, 0, 0), (.getfield 46, 3, 4, 11, 0)] (pc1 := 123) (lo1 := [some (.ref 26), some (.ref 277)]) (st1 := [.ref 36, .ref 287]) (μ1 := μ9) (vc := True) rfl (by decide +kernel) rfl trivial ?_
  refine pm_callSN2 mi_X9_copyRow (ix := 55) (host := RX9) (kc2 := 0) (ks2 := 0) (As := [.ref 287, .ref 36]) (rest := []) (c_X9_copyRow (a := 287) (b := 36) (n := 30) μ9 rfl rfl (by decide)) cal_X9_copyRow (by decide +kernel) (by decide +kernel) (by decide +kernel) rfl rfl (Nat.le_of_ble_eq_true rfl) (by decide) (by decide) ?_
  rintro _ μ10 ⟨rfl, e10⟩
  show pm_V _ _ _ _ 126 _ [] _
  refine pm_bl [(.aload_n 1, 1, 1, 0, 0), (.getfield 49, 3, 4, 12, 0), (.aload_n 0, 1, 0, 0, 0), (.getfield 49, 3, 4, 12, 0)] (pc1 := 134) (lo1 := [some (.ref 26), some (.ref 277)]) (st1 := [.ref 37, .ref 288]) (μ1 := μ10) (vc := True) rfl (by decide +kernel) rfl trivial ?_
  refine pm_callSN2 mi_X9_copyRow (ix := 55) (host := RX9) (kc2 := 0) (ks2 := 0) (As := [.ref 288, .ref 37]) (rest := []) (c_X9_copyRow (a := 288) (b := 37) (n := 30) μ10 rfl rfl (by decide)) cal_X9_copyRow (by decide +kernel) (by decide +kernel) (by decide +kernel) rfl rfl (Nat.le_of_ble_eq_true rfl) (by decide) (by decide) ?_
  rintro _ μ11 ⟨rfl, e11⟩
  show pm_V _ _ _ _ 137 _ [] _
  refine pm_bl [(.aload_n 1, 1, 1, 0, 0), (.getfield 52, 3, 4, 13, 0), (.aload_n 0, 1, 0, 0, 0), (.getfield 52, 3, 4, 13, 0)] (pc1 := 145) (lo1 := [some (.ref 26), some (.ref 277)]) (st1 := [.ref 38, .ref 289]) (μ1 := μ11) (vc := True) rfl (by decide +kernel) rfl trivial ?_
  refine pm_callSN2 mi_X9_copyRow (ix := 55) (host := RX9) (kc2 := 0) (ks2 := 0) (As := [.ref 289, .ref 38]) (rest := []) (c_X9_copyRow (a := 289) (b := 38) (n := 30) μ11 rfl rfl (by decide)) cal_X9_copyRow (by decide +kernel) (by decide +kernel) (by decide +kernel) rfl rfl (Nat.le_of_ble_eq_true rfl) (by decide) (by decide) ?_
  rintro _ μ12 ⟨rfl, e12⟩
  show pm_V _ _ _ _ 148 _ [] _
  exact pm_vret rfl (by decide) (by decide) (by decide +kernel) (by
    subst e1; subst e2; subst e3; subst e4; subst e5; subst e6; subst e7; subst e8; subst e9; subst e10; subst e11; subst e12
    refine ⟨rfl, rfl, fun i hi => by rw [pm_row_off (by omega), pm_row_off (by omega), pm_row_off (by omega), pm_row_off (by omega), pm_row_off (by omega), pm_row_off (by omega), pm_row_off (by omega), pm_row_off (by omega), pm_row_off (by omega), pm_row_off (by omega), pm_row_off (by omega), pm_row_off (by omega), pm_set_off (by omega), pm_set_off (by omega)], lr_Rl.mv (b := 252) (b2 := 1) hX hn (by simp only [Nat.reduceAdd]; rw [pm_row_off (by decide), pm_row_off (by decide), pm_row_off (by decide), pm_row_off (by decide), pm_row_off (by decide), pm_row_off (by decide), pm_row_off (by decide), pm_row_off (by decide), pm_row_off (by decide), pm_row_off (by decide), pm_row_off (by decide), pm_row_off (by decide), pm_set_miss (Or.inr (by decide)), pm_set_hit]) (by simp only [Nat.reduceAdd]; rw [pm_row_off (by decide), pm_row_off (by decide), pm_row_off (by decide), pm_row_off (by decide), pm_row_off (by decide), pm_row_off (by decide), pm_row_off (by decide), pm_row_off (by decide), pm_row_off (by decide), pm_row_off (by decide), pm_row_off (by decide), pm_row_off (by decide), pm_set_hit]) (fun k i h1 h2 h3 => ?_) (fun _ _ _ => rfl) rfl⟩
    rcases (show k = 26 ∨ k = 27 ∨ k = 28 ∨ k = 29 ∨ k = 30 ∨ k = 31 ∨ k = 32 ∨ k = 33 ∨ k = 34 ∨ k = 35 ∨ k = 36 ∨ k = 37 by omega) with rfl | rfl | rfl | rfl | rfl | rfl | rfl | rfl | rfl | rfl | rfl | rfl
    · simp only [Nat.reduceAdd]; rw [pm_row_off (by decide), pm_row_off (by decide), pm_row_off (by decide), pm_row_off (by decide), pm_row_off (by decide), pm_row_off (by decide), pm_row_off (by decide), pm_row_off (by decide), pm_row_off (by decide), pm_row_off (by decide), pm_row_off (by decide), pm_row_at]; unfold va_cpy; rw [if_pos (by omega), pm_set_off (by decide), pm_set_off (by decide), show 0 + (i - 0) = i from by omega]
    · simp only [Nat.reduceAdd]; rw [pm_row_off (by decide), pm_row_off (by decide), pm_row_off (by decide), pm_row_off (by decide), pm_row_off (by decide), pm_row_off (by decide), pm_row_off (by decide), pm_row_off (by decide), pm_row_off (by decide), pm_row_off (by decide), pm_row_at]; unfold va_cpy; rw [if_pos (by omega), pm_row_off (by decide), pm_set_off (by decide), pm_set_off (by decide), show 0 + (i - 0) = i from by omega]
    · simp only [Nat.reduceAdd]; rw [pm_row_off (by decide), pm_row_off (by decide), pm_row_off (by decide), pm_row_off (by decide), pm_row_off (by decide), pm_row_off (by decide), pm_row_off (by decide), pm_row_off (by decide), pm_row_off (by decide), pm_row_at]; unfold va_cpy; rw [if_pos (by omega), pm_row_off (by decide), pm_row_off (by decide), pm_set_off (by decide), pm_set_off (by decide), show 0 + (i - 0) = i from by omega]
    · simp only [Nat.reduceAdd]; rw [pm_row_off (by decide), pm_row_off (by decide), pm_row_off (by decide), pm_row_off (by decide), pm_row_off (by decide), pm_row_off (by decide), pm_row_off (by decide), pm_row_off (by decide), pm_row_at]; unfold va_cpy; rw [if_pos (by omega), pm_row_off (by decide), pm_row_off (by decide), pm_row_off (by decide), pm_set_off (by decide), pm_set_off (by decide), show 0 + (i - 0) = i from by omega]
    · simp only [Nat.reduceAdd]; rw [pm_row_off (by decide), pm_row_off (by decide), pm_row_off (by decide), pm_row_off (by decide), pm_row_off (by decide), pm_row_off (by decide), pm_row_off (by decide), pm_row_at]; unfold va_cpy; rw [if_pos (by omega), pm_row_off (by decide), pm_row_off (by decide), pm_row_off (by decide), pm_row_off (by decide), pm_set_off (by decide), pm_set_off (by decide), show 0 + (i - 0) = i from by omega]
    · simp only [Nat.reduceAdd]; rw [pm_row_off (by decide), pm_row_off (by decide), pm_row_off (by decide), pm_row_off (by decide), pm_row_off (by decide), pm_row_off (by decide), pm_row_at]; unfold va_cpy; rw [if_pos (by omega), pm_row_off (by decide), pm_row_off (by decide), pm_row_off (by decide), pm_row_off (by decide), pm_row_off (by decide), pm_set_off (by decide), pm_set_off (by decide), show 0 + (i - 0) = i from by omega]
    · simp only [Nat.reduceAdd]; rw [pm_row_off (by decide), pm_row_off (by decide), pm_row_off (by decide), pm_row_off (by decide), pm_row_off (by decide), pm_row_at]; unfold va_cpy; rw [if_pos (by omega), pm_row_off (by decide), pm_row_off (by decide), pm_row_off (by decide), pm_row_off (by decide), pm_row_off (by decide), pm_row_off (by decide), pm_set_off (by decide), pm_set_off (by decide), show 0 + (i - 0) = i from by omega]
    · simp only [Nat.reduceAdd]; rw [pm_row_off (by decide), pm_row_off (by decide), pm_row_off (by decide), pm_row_off (by decide), pm_row_at]; unfold va_cpy; rw [if_pos (by omega), pm_row_off (by decide), pm_row_off (by decide), pm_row_off (by decide), pm_row_off (by decide), pm_row_off (by decide), pm_row_off (by decide), pm_row_off (by decide), pm_set_off (by decide), pm_set_off (by decide), show 0 + (i - 0) = i from by omega]
    · simp only [Nat.reduceAdd]; rw [pm_row_off (by decide), pm_row_off (by decide), pm_row_off (by decide), pm_row_at]; unfold va_cpy; rw [if_pos (by omega), pm_row_off (by decide), pm_row_off (by decide), pm_row_off (by decide), pm_row_off (by decide), pm_row_off (by decide), pm_row_off (by decide), pm_row_off (by decide), pm_row_off (by decide), pm_set_off (by decide), pm_set_off (by decide), show 0 + (i - 0) = i from by omega]
    · simp only [Nat.reduceAdd]; rw [pm_row_off (by decide), pm_row_off (by decide), pm_row_at]; unfold va_cpy; rw [if_pos (by omega), pm_row_off (by decide), pm_row_off (by decide), pm_row_off (by decide), pm_row_off (by decide), pm_row_off (by decide), pm_row_off (by decide), pm_row_off (by decide), pm_row_off (by decide), pm_row_off (by decide), pm_set_off (by decide), pm_set_off (by decide), show 0 + (i - 0) = i from by omega]
    · simp only [Nat.reduceAdd]; rw [pm_row_off (by decide), pm_row_at]; unfold va_cpy; rw [if_pos (by omega), pm_row_off (by decide), pm_row_off (by decide), pm_row_off (by decide), pm_row_off (by decide), pm_row_off (by decide), pm_row_off (by decide), pm_row_off (by decide), pm_row_off (by decide), pm_row_off (by decide), pm_row_off (by decide), pm_set_off (by decide), pm_set_off (by decide), show 0 + (i - 0) = i from by omega]
    · simp only [Nat.reduceAdd]; rw [pm_row_at]; unfold va_cpy; rw [if_pos (by omega), pm_row_off (by decide), pm_row_off (by decide), pm_row_off (by decide), pm_row_off (by decide), pm_row_off (by decide), pm_row_off (by decide), pm_row_off (by decide), pm_row_off (by decide), pm_row_off (by decide), pm_row_off (by decide), pm_row_off (by decide), pm_set_off (by decide), pm_set_off (by decide), show 0 + (i - 0) = i from by omega])
set_option maxHeartbeats 4000000 in
set_option maxRecDepth 100000 in
theorem c_X5_copyFrom_1_252 {g : Nat → Int32} (μ : pm_Mm) (hR : lr_Rel μ.1 252 g) (hB : lr_B g) : pm_CT mi_X5_copyFrom [.ref 1, .ref 252] μ (fun v μ2 => v = none ∧ μ2.2 = μ.2 ∧ (∀ i, (i < 1 ∨ 39 < i) → μ2.1 i = μ.1 i) ∧ lr_Rel μ2.1 1 g) pm_NX := by
  refine pm_CT_of (lo := [some (.ref 1), some (.ref 252)]) (by decide +kernel) rfl rfl (by intro v hv; simp at hv; rcases hv with rfl | rfl <;> rfl) (Nat.le_of_ble_eq_true rfl) rfl ?_
  obtain ⟨hm1, hm3, hm2, hm4, hm5, hm6⟩ := id hB
  refine pm_bl [(.aload_n 0, 1, 0, 0, 0), (.getfield 12, 3, 5, 0, 0), (.aload_n 1, 1, 1, 0, 0), (.getfield 12, 3, 5, 0, 0)] (pc1 := 8) (lo1 := [some (.ref 1), some (.ref 252)]) (st1 := [.ref 253, .ref 2]) (μ1 := μ) (vc := True) rfl (by decide +kernel) rfl trivial ?_
  refine pm_callV2 mi_X3_copyFrom (ix := 61) (b := 2) (ci := 3) (kc2 := 0) (ks2 := 0) (As := [.ref 253]) (rest := []) (c_X3_copyFrom_1_252 μ hR.2.1 hm1) cal_X3_copyFrom lk5_61 (by decide +kernel) rfl (by decide +kernel) rfl rfl rfl rfl (Nat.le_of_ble_eq_true rfl) (by decide) (by decide) (fun _ _ h9 => h9.elim) ?_
  rintro _ μ1 ⟨rfl, x1, f1, r1⟩
  show pm_V _ _ _ _ 11 _ [] _
  refine pm_bl [(.aload_n 0, 1, 0, 0, 0), (.getfield 21, 3, 5, 1, 0), (.aload_n 1, 1, 1, 0, 0), (.getfield 21, 3, 5, 1, 0)] (pc1 := 19) (lo1 := [some (.ref 1), some (.ref 252)]) (st1 := [.ref 256, .ref 5]) (μ1 := μ1) (vc := True) rfl (by decide +kernel) rfl trivial ?_
  refine pm_callV2 mi_X6_copyFrom (ix := 65) (b := 5) (ci := 6) (kc2 := 0) (ks2 := 0) (As := [.ref 256]) (rest := []) (c_X6_copyFrom_1_252 μ1 (lr_Rp.st (b := 252) hR.2.2.1 hm3 (fun k h1 h2 => by rw [f1 _ (by omega)]) (fun _ _ _ => rfl)) hm3) cal_X6_copyFrom lk5_65 (by decide +kernel) rfl (by decide +kernel) rfl rfl rfl rfl (Nat.le_of_ble_eq_true rfl) (by decide) (by decide) (fun _ _ h9 => h9.elim) ?_
  rintro _ μ2 ⟨rfl, x2, f2, r2⟩
  show pm_V _ _ _ _ 22 _ [] _
  refine pm_bl [(.aload_n 0, 1, 0, 0, 0), (.getfield 28, 3, 5, 2, 0), (.aload_n 1, 1, 1, 0, 0), (.getfield 28, 3, 5, 2, 0)] (pc1 := 30) (lo1 := [some (.ref 1), some (.ref 252)]) (st1 := [.ref 261, .ref 10]) (μ1 := μ2) (vc := True) rfl (by decide +kernel) rfl trivial ?_
  refine pm_callV2 mi_X8_copyFrom (ix := 68) (b := 10) (ci := 8) (kc2 := 0) (ks2 := 0) (As := [.ref 261]) (rest := []) (c_X8_copyFrom_1_252 μ2 (lr_Rw.st (b := 252) hR.2.2.2.1 hm2 (fun k h1 h2 => by rw [f2 _ (by omega), f1 _ (by omega)]) (fun _ _ _ => rfl)) hm2) cal_X8_copyFrom lk5_68 (by decide +kernel) rfl (by decide +kernel) rfl rfl rfl rfl (Nat.le_of_ble_eq_true rfl) (by decide) (by decide) (fun _ _ h9 => h9.elim) ?_
  rintro _ μ3 ⟨rfl, x3, f3, r3⟩
  show pm_V _ _ _ _ 33 _ [] _
  refine pm_bl [(.aload_n 0, 1, 0, 0, 0), (.getfield 35, 3, 5, 3, 0), (.aload_n 1, 1, 1, 0, 0), (.getfield 35, 3, 5, 3, 0)] (pc1 := 41) (lo1 := [some (.ref 1), some (.ref 252)]) (st1 := [.ref 267, .ref 16]) (μ1 := μ3) (vc := True) rfl (by decide +kernel) rfl trivial ?_
  refine pm_callV2 mi_X7_copyFrom (ix := 71) (b := 16) (ci := 7) (kc2 := 0) (ks2 := 0) (As := [.ref 267]) (rest := []) (c_X7_copyFrom_1_252 μ3 (lr_Rr.st (b := 252) hR.2.2.2.2.1 hm4 (fun k h1 h2 => by rw [f3 _ (by omega), f2 _ (by omega), f1 _ (by omega)]) (fun _ _ _ => rfl)) hm4) cal_X7_copyFrom lk5_71 (by decide +kernel) rfl (by decide +kernel) rfl rfl rfl rfl (Nat.le_of_ble_eq_true rfl) (by decide) (by decide) (fun _ _ h9 => h9.elim) ?_
  rintro _ μ4 ⟨rfl, x4, f4, r4⟩
  show pm_V _ _ _ _ 44 _ [] _
  refine pm_bl [(.aload_n 0, 1, 0, 0, 0), (.getfield 42, 3, 5, 4, 0), (.aload_n 1, 1, 1, 0, 0), (.getfield 42, 3, 5, 4, 0)] (pc1 := 52) (lo1 := [some (.ref 1), some (.ref 252)]) (st1 := [.ref 273, .ref 22]) (μ1 := μ4) (vc := True) rfl (by decide +kernel) rfl trivial ?_
  refine pm_callV2 mi_X0_copyFrom (ix := 74) (b := 22) (ci := 0) (kc2 := 0) (ks2 := 0) (As := [.ref 273]) (rest := []) (c_X0_copyFrom_1_252 μ4 (lr_Ra.st (b := 252) hR.2.2.2.2.2.1 hm5 (fun k h1 h2 => by rw [f4 _ (by omega), f3 _ (by omega), f2 _ (by omega), f1 _ (by omega)]) (fun _ _ _ => rfl)) hm5) cal_X0_copyFrom lk5_74 (by decide +kernel) rfl (by decide +kernel) rfl rfl rfl rfl (Nat.le_of_ble_eq_true rfl) (by decide) (by decide) (fun _ _ h9 => h9.elim) ?_
  rintro _ μ5 ⟨rfl, x5, f5, r5⟩
  show pm_V _ _ _ _ 55 _ [] _
  refine pm_bl [(.aload_n 0, 1, 0, 0, 0), (.getfield 49, 3, 5, 5, 0), (.aload_n 1, 1, 1, 0, 0), (.getfield 49, 3, 5, 5, 0)] (pc1 := 63) (lo1 := [some (.ref 1), some (.ref 252)]) (st1 := [.ref 277, .ref 26]) (μ1 := μ5) (vc := True) rfl (by decide +kernel) rfl trivial ?_
  refine pm_callV2 mi_X4_copyFrom (ix := 77) (b := 26) (ci := 4) (kc2 := 0) (ks2 := 0) (As := [.ref 277]) (rest := []) (c_X4_copyFrom_1_252 μ5 (lr_Rl.st (b := 252) hR.2.2.2.2.2.2 hm6 (fun k h1 h2 => by rw [f5 _ (by omega), f4 _ (by omega), f3 _ (by omega), f2 _ (by omega), f1 _ (by omega)]) rfl (fun _ _ _ => rfl)) hm6) cal_X4_copyFrom lk5_77 (by decide +kernel) rfl (by decide +kernel) rfl rfl rfl rfl (Nat.le_of_ble_eq_true rfl) (by decide) (by decide) (fun _ _ h9 => h9.elim) ?_
  rintro _ μ6 ⟨rfl, x6, f6, r6⟩
  show pm_V _ _ _ _ 66 _ [] _
  refine pm_bl [(.aload_n 0, 1, 0, 0, 0), (.aload_n 1, 1, 1, 0, 0), (.getfield 53, 3, 5, 6, 0), (.putfield 53, 3, 5, 6, 0)] (pc1 := 74) (lo1 := [some (.ref 1), some (.ref 252)]) (st1 := []) (μ1 := pm_set μ6 1 6 (μ6.1 252 6)) (vc := True) rfl (by decide +kernel) rfl trivial ?_
  exact pm_vret rfl (by decide) (by decide) (by decide +kernel) (⟨rfl, (x6.trans (x5.trans (x4.trans (x3.trans (x2.trans x1))))), fun i hi => by rw [pm_set_off (by omega), f6 _ (by omega), f5 _ (by omega), f4 _ (by omega), f3 _ (by omega), f2 _ (by omega), f1 _ (by omega)], by rw [pm_set_hit, f6 _ (by omega), f5 _ (by omega), f4 _ (by omega), f3 _ (by omega), f2 _ (by omega), f1 _ (by omega)]; exact hR.1, lr_Rh.st (b := 1) r1 hm1 (fun k h1 h2 => by rw [pm_set_off (by omega), f6 _ (by omega), f5 _ (by omega), f4 _ (by omega), f3 _ (by omega), f2 _ (by omega)]) (fun _ _ _ => rfl), lr_Rp.st (b := 1) r2 hm3 (fun k h1 h2 => by rw [pm_set_off (by omega), f6 _ (by omega), f5 _ (by omega), f4 _ (by omega), f3 _ (by omega)]) (fun _ _ _ => rfl), lr_Rw.st (b := 1) r3 hm2 (fun k h1 h2 => by rw [pm_set_off (by omega), f6 _ (by omega), f5 _ (by omega), f4 _ (by omega)]) (fun _ _ _ => rfl), lr_Rr.st (b := 1) r4 hm4 (fun k h1 h2 => by rw [pm_set_off (by omega), f6 _ (by omega), f5 _ (by omega)]) (fun _ _ _ => rfl), lr_Ra.st (b := 1) r5 hm5 (fun k h1 h2 => by rw [pm_set_off (by omega), f6 _ (by omega)]) (fun _ _ _ => rfl), lr_Rl.st (b := 1) r6 hm6 (fun k h1 h2 => by rw [pm_set_off (by omega)]) rfl (fun _ _ _ => rfl)⟩)
set_option maxHeartbeats 4000000 in
set_option maxRecDepth 100000 in
theorem c_X3_copyFrom_1_291 {g : Nat → Int32} (μ : pm_Mm) (hX : lr_Rh μ.1 291 g) (hn : lr_n g 2 ≤ 16) : pm_CT mi_X3_copyFrom [.ref 2, .ref 292] μ (fun v μ2 => v = none ∧ μ2.2 = μ.2 ∧ (∀ i, (i < 2 ∨ 4 < i) → μ2.1 i = μ.1 i) ∧ lr_Rh μ2.1 1 g) pm_NX := by
  refine pm_CT_of (lo := [some (.ref 2), some (.ref 292)]) (by decide +kernel) rfl rfl (by intro v hv; simp at hv; rcases hv with rfl | rfl <;> rfl) (Nat.le_of_ble_eq_true rfl) rfl ?_
  refine pm_bl [(.aload_n 0, 1, 0, 0, 0), (.aload_n 1, 1, 1, 0, 0), (.getfield 9, 3, 3, 0, 0), (.putfield 9, 3, 3, 0, 0), (.aload_n 1, 1, 1, 0, 0), (.getfield 15, 3, 3, 1, 0), (.aload_n 0, 1, 0, 0, 0), (.getfield 15, 3, 3, 1, 0)] (pc1 := 16) (lo1 := [some (.ref 2), some (.ref 292)]) (st1 := [.ref 3, .ref 293]) (μ1 := pm_set μ 2 0 (μ.1 292 0)) (vc := True) rfl (by decide +kernel) rfl trivial ?_
  refine pm_callSN2 mi_X9_copyRow (ix := 22) (host := RX9) (kc2 := 0) (ks2 := 0) (As := [.ref 293, .ref 3]) (rest := []) (c_X9_copyRow (a := 293) (b := 3) (n := 16) (pm_set μ 2 0 (μ.1 292 0)) rfl rfl (by decide)) cal_X9_copyRow (by decide +kernel) (by decide +kernel) (by decide +kernel) rfl rfl (Nat.le_of_ble_eq_true rfl) (by decide) (by decide) ?_
  rintro _ μ1 ⟨rfl, e1⟩
  show pm_V _ _ _ _ 19 _ [] _
  refine pm_bl [(.aload_n 1, 1, 1, 0, 0), (.getfield 19, 3, 3, 2, 0), (.aload_n 0, 1, 0, 0, 0), (.getfield 19, 3, 3, 2, 0)] (pc1 := 27) (lo1 := [some (.ref 2), some (.ref 292)]) (st1 := [.ref 4, .ref 294]) (μ1 := μ1) (vc := True) rfl (by decide +kernel) rfl trivial ?_
  refine pm_callSN2 mi_X9_copyRow (ix := 22) (host := RX9) (kc2 := 0) (ks2 := 0) (As := [.ref 294, .ref 4]) (rest := []) (c_X9_copyRow (a := 294) (b := 4) (n := 16) μ1 rfl rfl (by decide)) cal_X9_copyRow (by decide +kernel) (by decide +kernel) (by decide +kernel) rfl rfl (Nat.le_of_ble_eq_true rfl) (by decide) (by decide) ?_
  rintro _ μ2 ⟨rfl, e2⟩
  show pm_V _ _ _ _ 30 _ [] _
  exact pm_vret rfl (by decide) (by decide) (by decide +kernel) (by
    subst e1; subst e2
    refine ⟨rfl, rfl, fun i hi => by rw [pm_row_off (by omega), pm_row_off (by omega), pm_set_off (by omega)], lr_Rh.mv (b := 291) (b2 := 1) hX hn (by simp only [Nat.reduceAdd]; rw [pm_row_off (by decide), pm_row_off (by decide), pm_set_hit]) (fun k i h1 h2 h3 => ?_) (fun _ _ _ => rfl)⟩
    rcases (show k = 2 ∨ k = 3 by omega) with rfl | rfl
    · simp only [Nat.reduceAdd]; rw [pm_row_off (by decide), pm_row_at]; unfold va_cpy; rw [if_pos (by omega), pm_set_off (by decide), show 0 + (i - 0) = i from by omega]
    · simp only [Nat.reduceAdd]; rw [pm_row_at]; unfold va_cpy; rw [if_pos (by omega), pm_row_off (by decide), pm_set_off (by decide), show 0 + (i - 0) = i from by omega])
set_option maxHeartbeats 4000000 in
set_option maxRecDepth 100000 in
theorem c_X6_copyFrom_1_291 {g : Nat → Int32} (μ : pm_Mm) (hX : lr_Rp μ.1 291 g) (hn : lr_n g 35 ≤ 20) : pm_CT mi_X6_copyFrom [.ref 5, .ref 295] μ (fun v μ2 => v = none ∧ μ2.2 = μ.2 ∧ (∀ i, (i < 5 ∨ 9 < i) → μ2.1 i = μ.1 i) ∧ lr_Rp μ2.1 1 g) pm_NX := by
  refine pm_CT_of (lo := [some (.ref 5), some (.ref 295)]) (by decide +kernel) rfl rfl (by intro v hv; simp at hv; rcases hv with rfl | rfl <;> rfl) (Nat.le_of_ble_eq_true rfl) rfl ?_
  refine pm_bl [(.aload_n 0, 1, 0, 0, 0), (.aload_n 1, 1, 1, 0, 0), (.getfield 9, 3, 6, 0, 0), (.putfield 9, 3, 6, 0, 0), (.aload_n 1, 1, 1, 0, 0), (.getfield 15, 3, 6, 1, 0), (.aload_n 0, 1, 0, 0, 0), (.getfield 15, 3, 6, 1, 0)] (pc1 := 16) (lo1 := [some (.ref 5), some (.ref 295)]) (st1 := [.ref 6, .ref 296]) (μ1 := pm_set μ 5 0 (μ.1 295 0)) (vc := True) rfl (by decide +kernel) rfl trivial ?_
  refine pm_callSN2 mi_X9_copyRow (ix := 28) (host := RX9) (kc2 := 0) (ks2 := 0) (As := [.ref 296, .ref 6]) (rest := []) (c_X9_copyRow (a := 296) (b := 6) (n := 20) (pm_set μ 5 0 (μ.1 295 0)) rfl rfl (by decide)) cal_X9_copyRow (by decide +kernel) (by decide +kernel) (by decide +kernel) rfl rfl (Nat.le_of_ble_eq_true rfl) (by decide) (by decide) ?_
  rintro _ μ1 ⟨rfl, e1⟩
  show pm_V _ _ _ _ 19 _ [] _
  refine pm_bl [(.aload_n 1, 1, 1, 0, 0), (.getfield 19, 3, 6, 2, 0), (.aload_n 0, 1, 0, 0, 0), (.getfield 19, 3, 6, 2, 0)] (pc1 := 27) (lo1 := [some (.ref 5), some (.ref 295)]) (st1 := [.ref 7, .ref 297]) (μ1 := μ1) (vc := True) rfl (by decide +kernel) rfl trivial ?_
  refine pm_callSN2 mi_X9_copyRow (ix := 28) (host := RX9) (kc2 := 0) (ks2 := 0) (As := [.ref 297, .ref 7]) (rest := []) (c_X9_copyRow (a := 297) (b := 7) (n := 20) μ1 rfl rfl (by decide)) cal_X9_copyRow (by decide +kernel) (by decide +kernel) (by decide +kernel) rfl rfl (Nat.le_of_ble_eq_true rfl) (by decide) (by decide) ?_
  rintro _ μ2 ⟨rfl, e2⟩
  show pm_V _ _ _ _ 30 _ [] _
  refine pm_bl [(.aload_n 1, 1, 1, 0, 0), (.getfield 22, 3, 6, 3, 0), (.aload_n 0, 1, 0, 0, 0), (.getfield 22, 3, 6, 3, 0)] (pc1 := 38) (lo1 := [some (.ref 5), some (.ref 295)]) (st1 := [.ref 8, .ref 298]) (μ1 := μ2) (vc := True) rfl (by decide +kernel) rfl trivial ?_
  refine pm_callSN2 mi_X9_copyRow (ix := 28) (host := RX9) (kc2 := 0) (ks2 := 0) (As := [.ref 298, .ref 8]) (rest := []) (c_X9_copyRow (a := 298) (b := 8) (n := 20) μ2 rfl rfl (by decide)) cal_X9_copyRow (by decide +kernel) (by decide +kernel) (by decide +kernel) rfl rfl (Nat.le_of_ble_eq_true rfl) (by decide) (by decide) ?_
  rintro _ μ3 ⟨rfl, e3⟩
  show pm_V _ _ _ _ 41 _ [] _
  refine pm_bl [(.aload_n 1, 1, 1, 0, 0), (.getfield 25, 3, 6, 4, 0), (.aload_n 0, 1, 0, 0, 0), (.getfield 25, 3, 6, 4, 0)] (pc1 := 49) (lo1 := [some (.ref 5), some (.ref 295)]) (st1 := [.ref 9, .ref 299]) (μ1 := μ3) (vc := True) rfl (by decide +kernel) rfl trivial ?_
  refine pm_callSN2 mi_X9_copyRow (ix := 28) (host := RX9) (kc2 := 0) (ks2 := 0) (As := [.ref 299, .ref 9]) (rest := []) (c_X9_copyRow (a := 299) (b := 9) (n := 20) μ3 rfl rfl (by decide)) cal_X9_copyRow (by decide +kernel) (by decide +kernel) (by decide +kernel) rfl rfl (Nat.le_of_ble_eq_true rfl) (by decide) (by decide) ?_
  rintro _ μ4 ⟨rfl, e4⟩
  show pm_V _ _ _ _ 52 _ [] _
  exact pm_vret rfl (by decide) (by decide) (by decide +kernel) (by
    subst e1; subst e2; subst e3; subst e4
    refine ⟨rfl, rfl, fun i hi => by rw [pm_row_off (by omega), pm_row_off (by omega), pm_row_off (by omega), pm_row_off (by omega), pm_set_off (by omega)], lr_Rp.mv (b := 291) (b2 := 1) hX hn (by simp only [Nat.reduceAdd]; rw [pm_row_off (by decide), pm_row_off (by decide), pm_row_off (by decide), pm_row_off (by decide), pm_set_hit]) (fun k i h1 h2 h3 => ?_) (fun _ _ _ => rfl)⟩
    rcases (show k = 5 ∨ k = 6 ∨ k = 7 ∨ k = 8 by omega) with rfl | rfl | rfl | rfl
    · simp only [Nat.reduceAdd]; rw [pm_row_off (by decide), pm_row_off (by decide), pm_row_off (by decide), pm_row_at]; unfold va_cpy; rw [if_pos (by omega), pm_set_off (by decide), show 0 + (i - 0) = i from by omega]
    · simp only [Nat.reduceAdd]; rw [pm_row_off (by decide), pm_row_off (by decide), pm_row_at]; unfold va_cpy; rw [if_pos (by omega), pm_row_off (by decide), pm_set_off (by decide), show 0 + (i - 0) = i from by omega]
    · simp only [Nat.reduceAdd]; rw [pm_row_off (by decide), pm_row_at]; unfold va_cpy; rw [if_pos (by omega), pm_row_off (by decide), pm_row_off (by decide), pm_set_off (by decide), show 0 + (i - 0) = i from by omega]
    · simp only [Nat.reduceAdd]; rw [pm_row_at]; unfold va_cpy; rw [if_pos (by omega), pm_row_off (by decide), pm_row_off (by decide), pm_row_off (by decide), pm_set_off (by decide), show 0 + (i - 0) = i from by omega])
set_option maxHeartbeats 4000000 in
set_option maxRecDepth 100000 in
theorem c_X8_copyFrom_1_291 {g : Nat → Int32} (μ : pm_Mm) (hX : lr_Rw μ.1 291 g) (hn : lr_n g 116 ≤ 10) : pm_CT mi_X8_copyFrom [.ref 10, .ref 300] μ (fun v μ2 => v = none ∧ μ2.2 = μ.2 ∧ (∀ i, (i < 10 ∨ 15 < i) → μ2.1 i = μ.1 i) ∧ lr_Rw μ2.1 1 g) pm_NX := by
  refine pm_CT_of (lo := [some (.ref 10), some (.ref 300)]) (by decide +kernel) rfl rfl (by intro v hv; simp at hv; rcases hv with rfl | rfl <;> rfl) (Nat.le_of_ble_eq_true rfl) rfl ?_
  refine pm_bl [(.aload_n 0, 1, 0, 0, 0), (.aload_n 1, 1, 1, 0, 0), (.getfield 9, 3, 8, 0, 0), (.putfield 9, 3, 8, 0, 0), (.aload_n 1, 1, 1, 0, 0), (.getfield 15, 3, 8, 1, 0), (.aload_n 0, 1, 0, 0, 0), (.getfield 15, 3, 8, 1, 0)] (pc1 := 16) (lo1 := [some (.ref 10), some (.ref 300)]) (st1 := [.ref 11, .ref 301]) (μ1 := pm_set μ 10 0 (μ.1 300 0)) (vc := True) rfl (by decide +kernel) rfl trivial ?_
  refine pm_callSN2 mi_X9_copyRow (ix := 31) (host := RX9) (kc2 := 0) (ks2 := 0) (As := [.ref 301, .ref 11]) (rest := []) (c_X9_copyRow (a := 301) (b := 11) (n := 10) (pm_set μ 10 0 (μ.1 300 0)) rfl rfl (by decide)) cal_X9_copyRow (by decide +kernel) (by decide +kernel) (by decide +kernel) rfl rfl (Nat.le_of_ble_eq_true rfl) (by decide) (by decide) ?_
  rintro _ μ1 ⟨rfl, e1⟩
  show pm_V _ _ _ _ 19 _ [] _
  refine pm_bl [(.aload_n 1, 1, 1, 0, 0), (.getfield 19, 3, 8, 2, 0), (.aload_n 0, 1, 0, 0, 0), (.getfield 19, 3, 8, 2, 0)] (pc1 := 27) (lo1 := [some (.ref 10), some (.ref 300)]) (st1 := [.ref 12, .ref 302]) (μ1 := μ1) (vc := True) rfl (by decide +kernel) rfl trivial ?_
  refine pm_callSN2 mi_X9_copyRow (ix := 31) (host := RX9) (kc2 := 0) (ks2 := 0) (As := [.ref 302, .ref 12]) (rest := []) (c_X9_copyRow (a := 302) (b := 12) (n := 10) μ1 rfl rfl (by decide)) cal_X9_copyRow (by decide +kernel) (by decide +kernel) (by decide +kernel) rfl rfl (Nat.le_of_ble_eq_true rfl) (by decide) (by decide) ?_
  rintro _ μ2 ⟨rfl, e2⟩
  show pm_V _ _ _ _ 30 _ [] _
  refine pm_bl [(.aload_n 1, 1, 1, 0, 0), (.getfield 22, 3, 8, 3, 0), (.aload_n 0, 1, 0, 0, 0), (.getfield 22, 3, 8, 3, 0)] (pc1 := 38) (lo1 := [some (.ref 10), some (.ref 300)]) (st1 := [.ref 13, .ref 303]) (μ1 := μ2) (vc := True) rfl (by decide +kernel) rfl trivial ?_
  refine pm_callSN2 mi_X9_copyRow (ix := 31) (host := RX9) (kc2 := 0) (ks2 := 0) (As := [.ref 303, .ref 13]) (rest := []) (c_X9_copyRow (a := 303) (b := 13) (n := 10) μ2 rfl rfl (by decide)) cal_X9_copyRow (by decide +kernel) (by decide +kernel) (by decide +kernel) rfl rfl (Nat.le_of_ble_eq_true rfl) (by decide) (by decide) ?_
  rintro _ μ3 ⟨rfl, e3⟩
  show pm_V _ _ _ _ 41 _ [] _
  refine pm_bl [(.aload_n 1, 1, 1, 0, 0), (.getfield 25, 3, 8, 4, 0), (.aload_n 0, 1, 0, 0, 0), (.getfield 25, 3, 8, 4, 0)] (pc1 := 49) (lo1 := [some (.ref 10), some (.ref 300)]) (st1 := [.ref 14, .ref 304]) (μ1 := μ3) (vc := True) rfl (by decide +kernel) rfl trivial ?_
  refine pm_callSN2 mi_X9_copyRow (ix := 31) (host := RX9) (kc2 := 0) (ks2 := 0) (As := [.ref 304, .ref 14]) (rest := []) (c_X9_copyRow (a := 304) (b := 14) (n := 10) μ3 rfl rfl (by decide)) cal_X9_copyRow (by decide +kernel) (by decide +kernel) (by decide +kernel) rfl rfl (Nat.le_of_ble_eq_true rfl) (by decide) (by decide) ?_
  rintro _ μ4 ⟨rfl, e4⟩
  show pm_V _ _ _ _ 52 _ [] _
  refine pm_bl [(.aload_n 1, 1, 1, 0, 0), (.getfield 28, 3, 8, 5, 0), (.aload_n 0, 1, 0, 0, 0), (.getfield 28, 3, 8, 5, 0)] (pc1 := 60) (lo1 := [some (.ref 10), some (.ref 300)]) (st1 := [.ref 15, .ref 305]) (μ1 := μ4) (vc := True) rfl (by decide +kernel) rfl trivial ?_
  refine pm_callSN2 mi_X9_copyRow (ix := 31) (host := RX9) (kc2 := 0) (ks2 := 0) (As := [.ref 305, .ref 15]) (rest := []) (c_X9_copyRow (a := 305) (b := 15) (n := 10) μ4 rfl rfl (by decide)) cal_X9_copyRow (by decide +kernel) (by decide +kernel) (by decide +kernel) rfl rfl (Nat.le_of_ble_eq_true rfl) (by decide) (by decide) ?_
  rintro _ μ5 ⟨rfl, e5⟩
  show pm_V _ _ _ _ 63 _ [] _
  exact pm_vret rfl (by decide) (by decide) (by decide +kernel) (by
    subst e1; subst e2; subst e3; subst e4; subst e5
    refine ⟨rfl, rfl, fun i hi => by rw [pm_row_off (by omega), pm_row_off (by omega), pm_row_off (by omega), pm_row_off (by omega), pm_row_off (by omega), pm_set_off (by omega)], lr_Rw.mv (b := 291) (b2 := 1) hX hn (by simp only [Nat.reduceAdd]; rw [pm_row_off (by decide), pm_row_off (by decide), pm_row_off (by decide), pm_row_off (by decide), pm_row_off (by decide), pm_set_hit]) (fun k i h1 h2 h3 => ?_) (fun _ _ _ => rfl)⟩
    rcases (show k = 10 ∨ k = 11 ∨ k = 12 ∨ k = 13 ∨ k = 14 by omega) with rfl | rfl | rfl | rfl | rfl
    · simp only [Nat.reduceAdd]; rw [pm_row_off (by decide), pm_row_off (by decide), pm_row_off (by decide), pm_row_off (by decide), pm_row_at]; unfold va_cpy; rw [if_pos (by omega), pm_set_off (by decide), show 0 + (i - 0) = i from by omega]
    · simp only [Nat.reduceAdd]; rw [pm_row_off (by decide), pm_row_off (by decide), pm_row_off (by decide), pm_row_at]; unfold va_cpy; rw [if_pos (by omega), pm_row_off (by decide), pm_set_off (by decide), show 0 + (i - 0) = i from by omega]
    · simp only [Nat.reduceAdd]; rw [pm_row_off (by decide), pm_row_off (by decide), pm_row_at]; unfold va_cpy; rw [if_pos (by omega), pm_row_off (by decide), pm_row_off (by decide), pm_set_off (by decide), show 0 + (i - 0) = i from by omega]
    · simp only [Nat.reduceAdd]; rw [pm_row_off (by decide), pm_row_at]; unfold va_cpy; rw [if_pos (by omega), pm_row_off (by decide), pm_row_off (by decide), pm_row_off (by decide), pm_set_off (by decide), show 0 + (i - 0) = i from by omega]
    · simp only [Nat.reduceAdd]; rw [pm_row_at]; unfold va_cpy; rw [if_pos (by omega), pm_row_off (by decide), pm_row_off (by decide), pm_row_off (by decide), pm_row_off (by decide), pm_set_off (by decide), show 0 + (i - 0) = i from by omega])
set_option maxHeartbeats 4000000 in
set_option maxRecDepth 100000 in
theorem c_X7_copyFrom_1_291 {g : Nat → Int32} (μ : pm_Mm) (hX : lr_Rr μ.1 291 g) (hn : lr_n g 167 ≤ 12) : pm_CT mi_X7_copyFrom [.ref 16, .ref 306] μ (fun v μ2 => v = none ∧ μ2.2 = μ.2 ∧ (∀ i, (i < 16 ∨ 21 < i) → μ2.1 i = μ.1 i) ∧ lr_Rr μ2.1 1 g) pm_NX := by
  refine pm_CT_of (lo := [some (.ref 16), some (.ref 306)]) (by decide +kernel) rfl rfl (by intro v hv; simp at hv; rcases hv with rfl | rfl <;> rfl) (Nat.le_of_ble_eq_true rfl) rfl ?_
  refine pm_bl [(.aload_n 0, 1, 0, 0, 0), (.aload_n 1, 1, 1, 0, 0), (.getfield 9, 3, 7, 0, 0), (.putfield 9, 3, 7, 0, 0), (.aload_n 1, 1, 1, 0, 0), (.getfield 15, 3, 7, 1, 0), (.aload_n 0, 1, 0, 0, 0), (.getfield 15, 3, 7, 1, 0)] (pc1 := 16) (lo1 := [some (.ref 16), some (.ref 306)]) (st1 := [.ref 17, .ref 307]) (μ1 := pm_set μ 16 0 (μ.1 306 0)) (vc := True) rfl (by decide +kernel) rfl trivial ?_
  refine pm_callSN2 mi_X9_copyRow (ix := 31) (host := RX9) (kc2 := 0) (ks2 := 0) (As := [.ref 307, .ref 17]) (rest := []) (c_X9_copyRow (a := 307) (b := 17) (n := 12) (pm_set μ 16 0 (μ.1 306 0)) rfl rfl (by decide)) cal_X9_copyRow (by decide +kernel) (by decide +kernel) (by decide +kernel) rfl rfl (Nat.le_of_ble_eq_true rfl) (by decide) (by decide) ?_
  rintro _ μ1 ⟨rfl, e1⟩
  show pm_V _ _ _ _ 19 _ [] _
  refine pm_bl [(.aload_n 1, 1, 1, 0, 0), (.getfield 19, 3, 7, 2, 0), (.aload_n 0, 1, 0, 0, 0), (.getfield 19, 3, 7, 2, 0)] (pc1 := 27) (lo1 := [some (.ref 16), some (.ref 306)]) (st1 := [.ref 18, .ref 308]) (μ1 := μ1) (vc := True) rfl (by decide +kernel) rfl trivial ?_
  refine pm_callSN2 mi_X9_copyRow (ix := 31) (host := RX9) (kc2 := 0) (ks2 := 0) (As := [.ref 308, .ref 18]) (rest := []) (c_X9_copyRow (a := 308) (b := 18) (n := 12) μ1 rfl rfl (by decide)) cal_X9_copyRow (by decide +kernel) (by decide +kernel) (by decide +kernel) rfl rfl (Nat.le_of_ble_eq_true rfl) (by decide) (by decide) ?_
  rintro _ μ2 ⟨rfl, e2⟩
  show pm_V _ _ _ _ 30 _ [] _
  refine pm_bl [(.aload_n 1, 1, 1, 0, 0), (.getfield 22, 3, 7, 3, 0), (.aload_n 0, 1, 0, 0, 0), (.getfield 22, 3, 7, 3, 0)] (pc1 := 38) (lo1 := [some (.ref 16), some (.ref 306)]) (st1 := [.ref 19, .ref 309]) (μ1 := μ2) (vc := True) rfl (by decide +kernel) rfl trivial ?_
  refine pm_callSN2 mi_X9_copyRow (ix := 31) (host := RX9) (kc2 := 0) (ks2 := 0) (As := [.ref 309, .ref 19]) (rest := []) (c_X9_copyRow (a := 309) (b := 19) (n := 12) μ2 rfl rfl (by decide)) cal_X9_copyRow (by decide +kernel) (by decide +kernel) (by decide +kernel) rfl rfl (Nat.le_of_ble_eq_true rfl) (by decide) (by decide) ?_
  rintro _ μ3 ⟨rfl, e3⟩
  show pm_V _ _ _ _ 41 _ [] _
  refine pm_bl [(.aload_n 1, 1, 1, 0, 0), (.getfield 25, 3, 7, 4, 0), (.aload_n 0, 1, 0, 0, 0), (.getfield 25, 3, 7, 4, 0)] (pc1 := 49) (lo1 := [some (.ref 16), some (.ref 306)]) (st1 := [.ref 20, .ref 310]) (μ1 := μ3) (vc := True) rfl (by decide +kernel) rfl trivial ?_
  refine pm_callSN2 mi_X9_copyRow (ix := 31) (host := RX9) (kc2 := 0) (ks2 := 0) (As := [.ref 310, .ref 20]) (rest := []) (c_X9_copyRow (a := 310) (b := 20) (n := 12) μ3 rfl rfl (by decide)) cal_X9_copyRow (by decide +kernel) (by decide +kernel) (by decide +kernel) rfl rfl (Nat.le_of_ble_eq_true rfl) (by decide) (by decide) ?_
  rintro _ μ4 ⟨rfl, e4⟩
  show pm_V _ _ _ _ 52 _ [] _
  refine pm_bl [(.aload_n 1, 1, 1, 0, 0), (.getfield 28, 3, 7, 5, 0), (.aload_n 0, 1, 0, 0, 0), (.getfield 28, 3, 7, 5, 0)] (pc1 := 60) (lo1 := [some (.ref 16), some (.ref 306)]) (st1 := [.ref 21, .ref 311]) (μ1 := μ4) (vc := True) rfl (by decide +kernel) rfl trivial ?_
  refine pm_callSN2 mi_X9_copyRow (ix := 31) (host := RX9) (kc2 := 0) (ks2 := 0) (As := [.ref 311, .ref 21]) (rest := []) (c_X9_copyRow (a := 311) (b := 21) (n := 12) μ4 rfl rfl (by decide)) cal_X9_copyRow (by decide +kernel) (by decide +kernel) (by decide +kernel) rfl rfl (Nat.le_of_ble_eq_true rfl) (by decide) (by decide) ?_
  rintro _ μ5 ⟨rfl, e5⟩
  show pm_V _ _ _ _ 63 _ [] _
  exact pm_vret rfl (by decide) (by decide) (by decide +kernel) (by
    subst e1; subst e2; subst e3; subst e4; subst e5
    refine ⟨rfl, rfl, fun i hi => by rw [pm_row_off (by omega), pm_row_off (by omega), pm_row_off (by omega), pm_row_off (by omega), pm_row_off (by omega), pm_set_off (by omega)], lr_Rr.mv (b := 291) (b2 := 1) hX hn (by simp only [Nat.reduceAdd]; rw [pm_row_off (by decide), pm_row_off (by decide), pm_row_off (by decide), pm_row_off (by decide), pm_row_off (by decide), pm_set_hit]) (fun k i h1 h2 h3 => ?_) (fun _ _ _ => rfl)⟩
    rcases (show k = 16 ∨ k = 17 ∨ k = 18 ∨ k = 19 ∨ k = 20 by omega) with rfl | rfl | rfl | rfl | rfl
    · simp only [Nat.reduceAdd]; rw [pm_row_off (by decide), pm_row_off (by decide), pm_row_off (by decide), pm_row_off (by decide), pm_row_at]; unfold va_cpy; rw [if_pos (by omega), pm_set_off (by decide), show 0 + (i - 0) = i from by omega]
    · simp only [Nat.reduceAdd]; rw [pm_row_off (by decide), pm_row_off (by decide), pm_row_off (by decide), pm_row_at]; unfold va_cpy; rw [if_pos (by omega), pm_row_off (by decide), pm_set_off (by decide), show 0 + (i - 0) = i from by omega]
    · simp only [Nat.reduceAdd]; rw [pm_row_off (by decide), pm_row_off (by decide), pm_row_at]; unfold va_cpy; rw [if_pos (by omega), pm_row_off (by decide), pm_row_off (by decide), pm_set_off (by decide), show 0 + (i - 0) = i from by omega]
    · simp only [Nat.reduceAdd]; rw [pm_row_off (by decide), pm_row_at]; unfold va_cpy; rw [if_pos (by omega), pm_row_off (by decide), pm_row_off (by decide), pm_row_off (by decide), pm_set_off (by decide), show 0 + (i - 0) = i from by omega]
    · simp only [Nat.reduceAdd]; rw [pm_row_at]; unfold va_cpy; rw [if_pos (by omega), pm_row_off (by decide), pm_row_off (by decide), pm_row_off (by decide), pm_row_off (by decide), pm_set_off (by decide), show 0 + (i - 0) = i from by omega])
set_option maxHeartbeats 4000000 in
set_option maxRecDepth 100000 in
theorem c_X0_copyFrom_1_291 {g : Nat → Int32} (μ : pm_Mm) (hX : lr_Ra μ.1 291 g) (hn : lr_n g 228 ≤ 20) : pm_CT mi_X0_copyFrom [.ref 22, .ref 312] μ (fun v μ2 => v = none ∧ μ2.2 = μ.2 ∧ (∀ i, (i < 22 ∨ 25 < i) → μ2.1 i = μ.1 i) ∧ lr_Ra μ2.1 1 g) pm_NX := by
  refine pm_CT_of (lo := [some (.ref 22), some (.ref 312)]) (by decide +kernel) rfl rfl (by intro v hv; simp at hv; rcases hv with rfl | rfl <;> rfl) (Nat.le_of_ble_eq_true rfl) rfl ?_
  refine pm_bl [(.aload_n 0, 1, 0, 0, 0), (.aload_n 1, 1, 1, 0, 0), (.getfield 9, 3, 0, 0, 0), (.putfield 9, 3, 0, 0, 0), (.aload_n 1, 1, 1, 0, 0), (.getfield 15, 3, 0, 1, 0), (.aload_n 0, 1, 0, 0, 0), (.getfield 15, 3, 0, 1, 0)] (pc1 := 16) (lo1 := [some (.ref 22), some (.ref 312)]) (st1 := [.ref 23, .ref 313]) (μ1 := pm_set μ 22 0 (μ.1 312 0)) (vc := True) rfl (by decide +kernel) rfl trivial ?_
  refine pm_callSN2 mi_X9_copyRow (ix := 25) (host := RX9) (kc2 := 0) (ks2 := 0) (As := [.ref 313, .ref 23]) (rest := []) (c_X9_copyRow (a := 313) (b := 23) (n := 20) (pm_set μ 22 0 (μ.1 312 0)) rfl rfl (by decide)) cal_X9_copyRow (by decide +kernel) (by decide +kernel) (by decide +kernel) rfl rfl (Nat.le_of_ble_eq_true rfl) (by decide) (by decide) ?_
  rintro _ μ1 ⟨rfl, e1⟩
  show pm_V _ _ _ _ 19 _ [] _
  refine pm_bl [(.aload_n 1, 1, 1, 0, 0), (.getfield 19, 3, 0, 2, 0), (.aload_n 0, 1, 0, 0, 0), (.getfield 19, 3, 0, 2, 0)] (pc1 := 27) (lo1 := [some (.ref 22), some (.ref 312)]) (st1 := [.ref 24, .ref 314]) (μ1 := μ1) (vc := True) rfl (by decide +kernel) rfl trivial ?_
  refine pm_callSN2 mi_X9_copyRow (ix := 25) (host := RX9) (kc2 := 0) (ks2 := 0) (As := [.ref 314, .ref 24]) (rest := []) (c_X9_copyRow (a := 314) (b := 24) (n := 20) μ1 rfl rfl (by decide)) cal_X9_copyRow (by decide +kernel) (by decide +kernel) (by decide +kernel) rfl rfl (Nat.le_of_ble_eq_true rfl) (by decide) (by decide) ?_
  rintro _ μ2 ⟨rfl, e2⟩
  show pm_V _ _ _ _ 30 _ [] _
  refine pm_bl [(.aload_n 1, 1, 1, 0, 0), (.getfield 22, 3, 0, 3, 0), (.aload_n 0, 1, 0, 0, 0), (.getfield 22, 3, 0, 3, 0)] (pc1 := 38) (lo1 := [some (.ref 22), some (.ref 312)]) (st1 := [.ref 25, .ref 315]) (μ1 := μ2) (vc := True) rfl (by decide +kernel) rfl trivial ?_
  refine pm_callSN2 mi_X9_copyRow (ix := 25) (host := RX9) (kc2 := 0) (ks2 := 0) (As := [.ref 315, .ref 25]) (rest := []) (c_X9_copyRow (a := 315) (b := 25) (n := 20) μ2 rfl rfl (by decide)) cal_X9_copyRow (by decide +kernel) (by decide +kernel) (by decide +kernel) rfl rfl (Nat.le_of_ble_eq_true rfl) (by decide) (by decide) ?_
  rintro _ μ3 ⟨rfl, e3⟩
  show pm_V _ _ _ _ 41 _ [] _
  exact pm_vret rfl (by decide) (by decide) (by decide +kernel) (by
    subst e1; subst e2; subst e3
    refine ⟨rfl, rfl, fun i hi => by rw [pm_row_off (by omega), pm_row_off (by omega), pm_row_off (by omega), pm_set_off (by omega)], lr_Ra.mv (b := 291) (b2 := 1) hX hn (by simp only [Nat.reduceAdd]; rw [pm_row_off (by decide), pm_row_off (by decide), pm_row_off (by decide), pm_set_hit]) (fun k i h1 h2 h3 => ?_) (fun _ _ _ => rfl)⟩
    rcases (show k = 22 ∨ k = 23 ∨ k = 24 by omega) with rfl | rfl | rfl
    · simp only [Nat.reduceAdd]; rw [pm_row_off (by decide), pm_row_off (by decide), pm_row_at]; unfold va_cpy; rw [if_pos (by omega), pm_set_off (by decide), show 0 + (i - 0) = i from by omega]
    · simp only [Nat.reduceAdd]; rw [pm_row_off (by decide), pm_row_at]; unfold va_cpy; rw [if_pos (by omega), pm_row_off (by decide), pm_set_off (by decide), show 0 + (i - 0) = i from by omega]
    · simp only [Nat.reduceAdd]; rw [pm_row_at]; unfold va_cpy; rw [if_pos (by omega), pm_row_off (by decide), pm_row_off (by decide), pm_set_off (by decide), show 0 + (i - 0) = i from by omega])
set_option maxHeartbeats 4000000 in
set_option maxRecDepth 100000 in
theorem c_X4_copyFrom_1_291 {g : Nat → Int32} (μ : pm_Mm) (hX : lr_Rl μ.1 291 g) (hn : lr_n g 289 ≤ 30) : pm_CT mi_X4_copyFrom [.ref 26, .ref 316] μ (fun v μ2 => v = none ∧ μ2.2 = μ.2 ∧ (∀ i, (i < 26 ∨ 38 < i) → μ2.1 i = μ.1 i) ∧ lr_Rl μ2.1 1 g) pm_NX := by
  refine pm_CT_of (lo := [some (.ref 26), some (.ref 316)]) (by decide +kernel) rfl rfl (by intro v hv; simp at hv; rcases hv with rfl | rfl <;> rfl) (Nat.le_of_ble_eq_true rfl) rfl ?_
  refine pm_bl [(.aload_n 0, 1, 0, 0, 0), (.aload_n 1, 1, 1, 0, 0), (.getfield 9, 3, 4, 0, 0), (.putfield 9, 3, 4, 0, 0), (.aload_n 0, 1, 0, 0, 0), (.aload_n 1, 1, 1, 0, 0), (.getfield 15, 3, 4, 1, 0), (.putfield 15, 3, 4, 1, 0), (.aload_n 1, 1, 1, 0, 0), (.getfield 18, 3, 4, 2, 0), (.aload_n 0, 1, 0, 0, 0), (.getfield 18, 3, 4, 2, 0)] (pc1 := 24) (lo1 := [some (.ref 26), some (.ref 316)]) (st1 := [.ref 27, .ref 317]) (μ1 := pm_set (pm_set μ 26 0 (μ.1 316 0)) 26 1 ((pm_set μ 26 0 (μ.1 316 0)).1 316 1)) (vc := True) rfl (by decide +kernel) rfl trivial ?_
  rw [show (pm_set μ 26 0 (μ.1 316 0)).1 316 1 = μ.1 316 1 from by simp [pm_set]]
  refine pm_callSN2 mi_X9_copyRow (ix := 55) (host := RX9) (kc2 := 0) (ks2 := 0) (As := [.ref 317, .ref 27]) (rest := []) (c_X9_copyRow (a := 317) (b := 27) (n := 30) (pm_set (pm_set μ 26 0 (μ.1 316 0)) 26 1 (μ.1 316 1)) rfl rfl (by decide)) cal_X9_copyRow (by decide +kernel) (by decide +kernel) (by decide +kernel) rfl rfl (Nat.le_of_ble_eq_true rfl) (by decide) (by decide) ?_
  rintro _ μ1 ⟨rfl, e1⟩
  show pm_V _ _ _ _ 27 _ [] _
  refine pm_bl [(.aload_n 1, 1, 1, 0, 0), (.getfield 22, 3, 4, 3, 0), (.aload_n 0, 1, 0, 0, 0), (.getfield 22, 3, 4, 3, 0)] (pc1 := 35) (lo1 := [some (.ref 26), some (.ref 316)]) (st1 := [.ref 28, .ref 318]) (μ1 := μ1) (vc := True) rfl (by decide +kernel) rfl trivial ?_
  refine pm_callSN2 mi_X9_copyRow (ix := 55) (host := RX9) (kc2 := 0) (ks2 := 0) (As := [.ref 318, .ref 28]) (rest := []) (c_X9_copyRow (a := 318) (b := 28) (n := 30) μ1 rfl rfl (by decide)) cal_X9_copyRow (by decide +kernel) (by decide +kernel) (by decide +kernel) rfl rfl (Nat.le_of_ble_eq_true rfl) (by decide) (by decide) ?_
  rintro _ μ2 ⟨rfl, e2⟩
  show pm_V _ _ _ _ 38 _ [] _
  refine pm_bl [(.aload_n 1, 1, 1, 0, 0), (.getfield 25, 3, 4, 4, 0), (.aload_n 0, 1, 0, 0, 0), (.getfield 25, 3, 4, 4, 0)] (pc1 := 46) (lo1 := [some (.ref 26), some (.ref 316)]) (st1 := [.ref 29, .ref 319]) (μ1 := μ2) (vc := True) rfl (by decide +kernel) rfl trivial ?_
  refine pm_callSN2 mi_X9_copyRow (ix := 55) (host := RX9) (kc2 := 0) (ks2 := 0) (As := [.ref 319, .ref 29]) (rest := []) (c_X9_copyRow (a := 319) (b := 29) (n := 30) μ2 rfl rfl (by decide)) cal_X9_copyRow (by decide +kernel) (by decide +kernel) (by decide +kernel) rfl rfl (Nat.le_of_ble_eq_true rfl) (by decide) (by decide) ?_
  rintro _ μ3 ⟨rfl, e3⟩
  show pm_V _ _ _ _ 49 _ [] _
  refine pm_bl [(.aload_n 1, 1, 1, 0, 0), (.getfield 28, 3, 4, 5, 0), (.aload_n 0, 1, 0, 0, 0), (.getfield 28, 3, 4, 5, 0)] (pc1 := 57) (lo1 := [some (.ref 26), some (.ref 316)]) (st1 := [.ref 30, .ref 320]) (μ1 := μ3) (vc := True) rfl (by decide +kernel) rfl trivial ?_
  refine pm_callSN2 mi_X9_copyRow (ix := 55) (host := RX9) (kc2 := 0) (ks2 := 0) (As := [.ref 320, .ref 30]) (rest := []) (c_X9_copyRow (a := 320) (b := 30) (n := 30) μ3 rfl rfl (by decide)) cal_X9_copyRow (by decide +kernel) (by decide +kernel) (by decide +kernel) rfl rfl (Nat.le_of_ble_eq_true rfl) (by decide) (by decide) ?_
  rintro _ μ4 ⟨rfl, e4⟩
  show pm_V _ _ _ _ 60 _ [] _
  refine pm_bl [(.aload_n 1, 1, 1, 0, 0), (.getfield 31, 3, 4, 6, 0), (.aload_n 0, 1, 0, 0, 0), (.getfield 31, 3, 4, 6, 0)] (pc1 := 68) (lo1 := [some (.ref 26), some (.ref 316)]) (st1 := [.ref 31, .ref 321]) (μ1 := μ4) (vc := True) rfl (by decide +kernel) rfl trivial ?_
  refine pm_callSN2 mi_X9_copyRow (ix := 55) (host := RX9) (kc2 := 0) (ks2 := 0) (As := [.ref 321, .ref 31]) (rest := []) (c_X9_copyRow (a := 321) (b := 31) (n := 30) μ4 rfl rfl (by decide)) cal_X9_copyRow (by decide +kernel) (by decide +kernel) (by decide +kernel) rfl rfl (Nat.le_of_ble_eq_true rfl) (by decide) (by decide) ?_
  rintro _ μ5 ⟨rfl, e5⟩
  show pm_V _ _ _ _ 71 _ [] _
  refine pm_bl [(.aload_n 1, 1, 1, 0, 0), (.getfield 34, 3, 4, 7, 0), (.aload_n 0, 1, 0, 0, 0), (.getfield 34, 3, 4, 7, 0)] (pc1 := 79) (lo1 := [some (.ref 26), some (.ref 316)]) (st1 := [.ref 32, .ref 322]) (μ1 := μ5) (vc := True) rfl (by decide +kernel) rfl trivial ?_
  refine pm_callSN2 mi_X9_copyRow (ix := 55) (host := RX9) (kc2 := 0) (ks2 := 0) (As := [.ref 322, .ref 32]) (rest := []) (c_X9_copyRow (a := 322) (b := 32) (n := 30) μ5 rfl rfl (by decide)) cal_X9_copyRow (by decide +kernel) (by decide +kernel) (by decide +kernel) rfl rfl (Nat.le_of_ble_eq_true rfl) (by decide) (by decide) ?_
  rintro _ μ6 ⟨rfl, e6⟩
  show pm_V _ _ _ _ 82 _ [] _
  refine pm_bl [(.aload_n 1, 1, 1, 0, 0), (.getfield 37, 3, 4, 8, 0), (.aload_n 0, 1, 0, 0, 0), (.getfield 37, 3, 4, 8, 0)] (pc1 := 90) (lo1 := [some (.ref 26), some (.ref 316)]) (st1 := [.ref 33, .ref 323]) (μ1 := μ6) (vc := True) rfl (by decide +kernel) rfl trivial ?_
  refine pm_callSN2 mi_X9_copyRow (ix := 55) (host := RX9) (kc2 := 0) (ks2 := 0) (As := [.ref 323, .ref 33]) (rest := []) (c_X9_copyRow (a := 323) (b := 33) (n := 30) μ6 rfl rfl (by decide)) cal_X9_copyRow (by decide +kernel) (by decide +kernel) (by decide +kernel) rfl rfl (Nat.le_of_ble_eq_true rfl) (by decide) (by decide) ?_
  rintro _ μ7 ⟨rfl, e7⟩
  show pm_V _ _ _ _ 93 _ [] _
  refine pm_bl [(.aload_n 1, 1, 1, 0, 0), (.getfield 40, 3, 4, 9, 0), (.aload_n 0, 1, 0, 0, 0), (.getfield 40, 3, 4, 9, 0)] (pc1 := 101) (lo1 := [some (.ref 26), some (.ref 316)]) (st1 := [.ref 34, .ref 324]) (μ1 := μ7) (vc := True) rfl (by decide +kernel) rfl trivial ?_
  refine pm_callSN2 mi_X9_copyRow (ix := 55) (host := RX9) (kc2 := 0) (ks2 := 0) (As := [.ref 324, .ref 34]) (rest := []) (c_X9_copyRow (a := 324) (b := 34) (n := 30) μ7 rfl rfl (by decide)) cal_X9_copyRow (by decide +kernel) (by decide +kernel) (by decide +kernel) rfl rfl (Nat.le_of_ble_eq_true rfl) (by decide) (by decide) ?_
  rintro _ μ8 ⟨rfl, e8⟩
  show pm_V _ _ _ _ 104 _ [] _
  refine pm_bl [(.aload_n 1, 1, 1, 0, 0), (.getfield 43, 3, 4, 10, 0), (.aload_n 0, 1, 0, 0, 0), (.getfield 43, 3, 4, 10, 0)] (pc1 := 112) (lo1 := [some (.ref 26), some (.ref 316)]) (st1 := [.ref 35, .ref 325]) (μ1 := μ8) (vc := True) rfl (by decide +kernel) rfl trivial ?_
  refine pm_callSN2 mi_X9_copyRow (ix := 55) (host := RX9) (kc2 := 0) (ks2 := 0) (As := [.ref 325, .ref 35]) (rest := []) (c_X9_copyRow (a := 325) (b := 35) (n := 30) μ8 rfl rfl (by decide)) cal_X9_copyRow (by decide +kernel) (by decide +kernel) (by decide +kernel) rfl rfl (Nat.le_of_ble_eq_true rfl) (by decide) (by decide) ?_
  rintro _ μ9 ⟨rfl, e9⟩
  show pm_V _ _ _ _ 115 _ [] _
  refine pm_bl [(.aload_n 1, 1, 1, 0, 0), (.getfield 46, 3, 4, 11, 0), (.aload_n 0, 1, 0, 0, 0), (.getfield 46, 3, 4, 11, 0)] (pc1 := 123) (lo1 := [some (.ref 26), some (.ref 316)]) (st1 := [.ref 36, .ref 326]) (μ1 := μ9) (vc := True) rfl (by decide +kernel) rfl trivial ?_
  refine pm_callSN2 mi_X9_copyRow (ix := 55) (host := RX9) (kc2 := 0) (ks2 := 0) (As := [.ref 326, .ref 36]) (rest := []) (c_X9_copyRow (a := 326) (b := 36) (n := 30) μ9 rfl rfl (by decide)) cal_X9_copyRow (by decide +kernel) (by decide +kernel) (by decide +kernel) rfl rfl (Nat.le_of_ble_eq_true rfl) (by decide) (by decide) ?_
  rintro _ μ10 ⟨rfl, e10⟩
  show pm_V _ _ _ _ 126 _ [] _
  refine pm_bl [(.aload_n 1, 1, 1, 0, 0), (.getfield 49, 3, 4, 12, 0), (.aload_n 0, 1, 0, 0, 0), (.getfield 49, 3, 4, 12, 0)] (pc1 := 134) (lo1 := [some (.ref 26), some (.ref 316)]) (st1 := [.ref 37, .ref 327]) (μ1 := μ10) (vc := True) rfl (by decide +kernel) rfl trivial ?_
  refine pm_callSN2 mi_X9_copyRow (ix := 55) (host := RX9) (kc2 := 0) (ks2 := 0) (As := [.ref 327, .ref 37]) (rest := []) (c_X9_copyRow (a := 327) (b := 37) (n := 30) μ10 rfl rfl (by decide)) cal_X9_copyRow (by decide +kernel) (by decide +kernel) (by decide +kernel) rfl rfl (Nat.le_of_ble_eq_true rfl) (by decide) (by decide) ?_
  rintro _ μ11 ⟨rfl, e11⟩
  show pm_V _ _ _ _ 137 _ [] _
  refine pm_bl [(.aload_n 1, 1, 1, 0, 0), (.getfield 52, 3, 4, 13, 0), (.aload_n 0, 1, 0, 0, 0), (.getfield 52, 3, 4, 13, 0)] (pc1 := 145) (lo1 := [some (.ref 26), some (.ref 316)]) (st1 := [.ref 38, .ref 328]) (μ1 := μ11) (vc := True) rfl (by decide +kernel) rfl trivial ?_
  refine pm_callSN2 mi_X9_copyRow (ix := 55) (host := RX9) (kc2 := 0) (ks2 := 0) (As := [.ref 328, .ref 38]) (rest := []) (c_X9_copyRow (a := 328) (b := 38) (n := 30) μ11 rfl rfl (by decide)) cal_X9_copyRow (by decide +kernel) (by decide +kernel) (by decide +kernel) rfl rfl (Nat.le_of_ble_eq_true rfl) (by decide) (by decide) ?_
  rintro _ μ12 ⟨rfl, e12⟩
  show pm_V _ _ _ _ 148 _ [] _
  exact pm_vret rfl (by decide) (by decide) (by decide +kernel) (by
    subst e1; subst e2; subst e3; subst e4; subst e5; subst e6; subst e7; subst e8; subst e9; subst e10; subst e11; subst e12
    refine ⟨rfl, rfl, fun i hi => by rw [pm_row_off (by omega), pm_row_off (by omega), pm_row_off (by omega), pm_row_off (by omega), pm_row_off (by omega), pm_row_off (by omega), pm_row_off (by omega), pm_row_off (by omega), pm_row_off (by omega), pm_row_off (by omega), pm_row_off (by omega), pm_row_off (by omega), pm_set_off (by omega), pm_set_off (by omega)], lr_Rl.mv (b := 291) (b2 := 1) hX hn (by simp only [Nat.reduceAdd]; rw [pm_row_off (by decide), pm_row_off (by decide), pm_row_off (by decide), pm_row_off (by decide), pm_row_off (by decide), pm_row_off (by decide), pm_row_off (by decide), pm_row_off (by decide), pm_row_off (by decide), pm_row_off (by decide), pm_row_off (by decide), pm_row_off (by decide), pm_set_miss (Or.inr (by decide)), pm_set_hit]) (by simp only [Nat.reduceAdd]; rw [pm_row_off (by decide), pm_row_off (by decide), pm_row_off (by decide), pm_row_off (by decide), pm_row_off (by decide), pm_row_off (by decide), pm_row_off (by decide), pm_row_off (by decide), pm_row_off (by decide), pm_row_off (by decide), pm_row_off (by decide), pm_row_off (by decide), pm_set_hit]) (fun k i h1 h2 h3 => ?_) (fun _ _ _ => rfl) rfl⟩
    rcases (show k = 26 ∨ k = 27 ∨ k = 28 ∨ k = 29 ∨ k = 30 ∨ k = 31 ∨ k = 32 ∨ k = 33 ∨ k = 34 ∨ k = 35 ∨ k = 36 ∨ k = 37 by omega) with rfl | rfl | rfl | rfl | rfl | rfl | rfl | rfl | rfl | rfl | rfl | rfl
    · simp only [Nat.reduceAdd]; rw [pm_row_off (by decide), pm_row_off (by decide), pm_row_off (by decide), pm_row_off (by decide), pm_row_off (by decide), pm_row_off (by decide), pm_row_off (by decide), pm_row_off (by decide), pm_row_off (by decide), pm_row_off (by decide), pm_row_off (by decide), pm_row_at]; unfold va_cpy; rw [if_pos (by omega), pm_set_off (by decide), pm_set_off (by decide), show 0 + (i - 0) = i from by omega]
    · simp only [Nat.reduceAdd]; rw [pm_row_off (by decide), pm_row_off (by decide), pm_row_off (by decide), pm_row_off (by decide), pm_row_off (by decide), pm_row_off (by decide), pm_row_off (by decide), pm_row_off (by decide), pm_row_off (by decide), pm_row_off (by decide), pm_row_at]; unfold va_cpy; rw [if_pos (by omega), pm_row_off (by decide), pm_set_off (by decide), pm_set_off (by decide), show 0 + (i - 0) = i from by omega]
    · simp only [Nat.reduceAdd]; rw [pm_row_off (by decide), pm_row_off (by decide), pm_row_off (by decide), pm_row_off (by decide), pm_row_off (by decide), pm_row_off (by decide), pm_row_off (by decide), pm_row_off (by decide), pm_row_off (by decide), pm_row_at]; unfold va_cpy; rw [if_pos (by omega), pm_row_off (by decide), pm_row_off (by decide), pm_set_off (by decide), pm_set_off (by decide), show 0 + (i - 0) = i from by omega]
    · simp only [Nat.reduceAdd]; rw [pm_row_off (by decide), pm_row_off (by decide), pm_row_off (by decide), pm_row_off (by decide), pm_row_off (by decide), pm_row_off (by decide), pm_row_off (by decide), pm_row_off (by decide), pm_row_at]; unfold va_cpy; rw [if_pos (by omega), pm_row_off (by decide), pm_row_off (by decide), pm_row_off (by decide), pm_set_off (by decide), pm_set_off (by decide), show 0 + (i - 0) = i from by omega]
    · simp only [Nat.reduceAdd]; rw [pm_row_off (by decide), pm_row_off (by decide), pm_row_off (by decide), pm_row_off (by decide), pm_row_off (by decide), pm_row_off (by decide), pm_row_off (by decide), pm_row_at]; unfold va_cpy; rw [if_pos (by omega), pm_row_off (by decide), pm_row_off (by decide), pm_row_off (by decide), pm_row_off (by decide), pm_set_off (by decide), pm_set_off (by decide), show 0 + (i - 0) = i from by omega]
    · simp only [Nat.reduceAdd]; rw [pm_row_off (by decide), pm_row_off (by decide), pm_row_off (by decide), pm_row_off (by decide), pm_row_off (by decide), pm_row_off (by decide), pm_row_at]; unfold va_cpy; rw [if_pos (by omega), pm_row_off (by decide), pm_row_off (by decide), pm_row_off (by decide), pm_row_off (by decide), pm_row_off (by decide), pm_set_off (by decide), pm_set_off (by decide), show 0 + (i - 0) = i from by omega]
    · simp only [Nat.reduceAdd]; rw [pm_row_off (by decide), pm_row_off (by decide), pm_row_off (by decide), pm_row_off (by decide), pm_row_off (by decide), pm_row_at]; unfold va_cpy; rw [if_pos (by omega), pm_row_off (by decide), pm_row_off (by decide), pm_row_off (by decide), pm_row_off (by decide), pm_row_off (by decide), pm_row_off (by decide), pm_set_off (by decide), pm_set_off (by decide), show 0 + (i - 0) = i from by omega]
    · simp only [Nat.reduceAdd]; rw [pm_row_off (by decide), pm_row_off (by decide), pm_row_off (by decide), pm_row_off (by decide), pm_row_at]; unfold va_cpy; rw [if_pos (by omega), pm_row_off (by decide), pm_row_off (by decide), pm_row_off (by decide), pm_row_off (by decide), pm_row_off (by decide), pm_row_off (by decide), pm_row_off (by decide), pm_set_off (by decide), pm_set_off (by decide), show 0 + (i - 0) = i from by omega]
    · simp only [Nat.reduceAdd]; rw [pm_row_off (by decide), pm_row_off (by decide), pm_row_off (by decide), pm_row_at]; unfold va_cpy; rw [if_pos (by omega), pm_row_off (by decide), pm_row_off (by decide), pm_row_off (by decide), pm_row_off (by decide), pm_row_off (by decide), pm_row_off (by decide), pm_row_off (by decide), pm_row_off (by decide), pm_set_off (by decide), pm_set_off (by decide), show 0 + (i - 0) = i from by omega]
    · simp only [Nat.reduceAdd]; rw [pm_row_off (by decide), pm_row_off (by decide), pm_row_at]; unfold va_cpy; rw [if_pos (by omega), pm_row_off (by decide), pm_row_off (by decide), pm_row_off (by decide), pm_row_off (by decide), pm_row_off (by decide), pm_row_off (by decide), pm_row_off (by decide), pm_row_off (by decide), pm_row_off (by decide), pm_set_off (by decide), pm_set_off (by decide), show 0 + (i - 0) = i from by omega]
    · simp only [Nat.reduceAdd]; rw [pm_row_off (by decide), pm_row_at]; unfold va_cpy; rw [if_pos (by omega), pm_row_off (by decide), pm_row_off (by decide), pm_row_off (by decide), pm_row_off (by decide), pm_row_off (by decide), pm_row_off (by decide), pm_row_off (by decide), pm_row_off (by decide), pm_row_off (by decide), pm_row_off (by decide), pm_set_off (by decide), pm_set_off (by decide), show 0 + (i - 0) = i from by omega]
    · simp only [Nat.reduceAdd]; rw [pm_row_at]; unfold va_cpy; rw [if_pos (by omega), pm_row_off (by decide), pm_row_off (by decide), pm_row_off (by decide), pm_row_off (by decide), pm_row_off (by decide), pm_row_off (by decide), pm_row_off (by decide), pm_row_off (by decide), pm_row_off (by decide), pm_row_off (by decide), pm_row_off (by decide), pm_set_off (by decide), pm_set_off (by decide), show 0 + (i - 0) = i from by omega])
set_option maxHeartbeats 4000000 in
set_option maxRecDepth 100000 in
theorem c_X5_copyFrom_1_291 {g : Nat → Int32} (μ : pm_Mm) (hR : lr_Rel μ.1 291 g) (hB : lr_B g) : pm_CT mi_X5_copyFrom [.ref 1, .ref 291] μ (fun v μ2 => v = none ∧ μ2.2 = μ.2 ∧ (∀ i, (i < 1 ∨ 39 < i) → μ2.1 i = μ.1 i) ∧ lr_Rel μ2.1 1 g) pm_NX := by
  refine pm_CT_of (lo := [some (.ref 1), some (.ref 291)]) (by decide +kernel) rfl rfl (by intro v hv; simp at hv; rcases hv with rfl | rfl <;> rfl) (Nat.le_of_ble_eq_true rfl) rfl ?_
  obtain ⟨hm1, hm3, hm2, hm4, hm5, hm6⟩ := id hB
  refine pm_bl [(.aload_n 0, 1, 0, 0, 0), (.getfield 12, 3, 5, 0, 0), (.aload_n 1, 1, 1, 0, 0), (.getfield 12, 3, 5, 0, 0)] (pc1 := 8) (lo1 := [some (.ref 1), some (.ref 291)]) (st1 := [.ref 292, .ref 2]) (μ1 := μ) (vc := True) rfl (by decide +kernel) rfl trivial ?_
  refine pm_callV2 mi_X3_copyFrom (ix := 61) (b := 2) (ci := 3) (kc2 := 0) (ks2 := 0) (As := [.ref 292]) (rest := []) (c_X3_copyFrom_1_291 μ hR.2.1 hm1) cal_X3_copyFrom lk5_61 (by decide +kernel) rfl (by decide +kernel) rfl rfl rfl rfl (Nat.le_of_ble_eq_true rfl) (by decide) (by decide) (fun _ _ h9 => h9.elim) ?_
  rintro _ μ1 ⟨rfl, x1, f1, r1⟩
  show pm_V _ _ _ _ 11 _ [] _
  refine pm_bl [(.aload_n 0, 1, 0, 0, 0), (.getfield 21, 3, 5, 1, 0), (.aload_n 1, 1, 1, 0, 0), (.getfield 21, 3, 5, 1, 0)] (pc1 := 19) (lo1 := [some (.ref 1), some (.ref 291)]) (st1 := [.ref 295, .ref 5]) (μ1 := μ1) (vc := True) rfl (by decide +kernel) rfl trivial ?_
  refine pm_callV2 mi_X6_copyFrom (ix := 65) (b := 5) (ci := 6) (kc2 := 0) (ks2 := 0) (As := [.ref 295]) (rest := []) (c_X6_copyFrom_1_291 μ1 (lr_Rp.st (b := 291) hR.2.2.1 hm3 (fun k h1 h2 => by rw [f1 _ (by omega)]) (fun _ _ _ => rfl)) hm3) cal_X6_copyFrom lk5_65 (by decide +kernel) rfl (by decide +kernel) rfl rfl rfl rfl (Nat.le_of_ble_eq_true rfl) (by decide) (by decide) (fun _ _ h9 => h9.elim) ?_
  rintro _ μ2 ⟨rfl, x2, f2, r2⟩
  show pm_V _ _ _ _ 22 _ [] _
  refine pm_bl [(.aload_n 0, 1, 0, 0, 0), (.getfield 28, 3, 5, 2, 0), (.aload_n 1, 1, 1, 0, 0), (.getfield 28, 3, 5, 2, 0)] (pc1 := 30) (lo1 := [some (.ref 1), some (.ref 291)]) (st1 := [.ref 300, .ref 10]) (μ1 := μ2) (vc := True) rfl (by decide +kernel) rfl trivial ?_
  refine pm_callV2 mi_X8_copyFrom (ix := 68) (b := 10) (ci := 8) (kc2 := 0) (ks2 := 0) (As := [.ref 300]) (rest := []) (c_X8_copyFrom_1_291 μ2 (lr_Rw.st (b := 291) hR.2.2.2.1 hm2 (fun k h1 h2 => by rw [f2 _ (by omega), f1 _ (by omega)]) (fun _ _ _ => rfl)) hm2) cal_X8_copyFrom lk5_68 (by decide +kernel) rfl (by decide +kernel) rfl rfl rfl rfl (Nat.le_of_ble_eq_true rfl) (by decide) (by decide) (fun _ _ h9 => h9.elim) ?_
  rintro _ μ3 ⟨rfl, x3, f3, r3⟩
  show pm_V _ _ _ _ 33 _ [] _
  refine pm_bl [(.aload_n 0, 1, 0, 0, 0), (.getfield 35, 3, 5, 3, 0), (.aload_n 1, 1, 1, 0, 0), (.getfield 35, 3, 5, 3, 0)] (pc1 := 41) (lo1 := [some (.ref 1), some (.ref 291)]) (st1 := [.ref 306, .ref 16]) (μ1 := μ3) (vc := True) rfl (by decide +kernel) rfl trivial ?_
  refine pm_callV2 mi_X7_copyFrom (ix := 71) (b := 16) (ci := 7) (kc2 := 0) (ks2 := 0) (As := [.ref 306]) (rest := []) (c_X7_copyFrom_1_291 μ3 (lr_Rr.st (b := 291) hR.2.2.2.2.1 hm4 (fun k h1 h2 => by rw [f3 _ (by omega), f2 _ (by omega), f1 _ (by omega)]) (fun _ _ _ => rfl)) hm4) cal_X7_copyFrom lk5_71 (by decide +kernel) rfl (by decide +kernel) rfl rfl rfl rfl (Nat.le_of_ble_eq_true rfl) (by decide) (by decide) (fun _ _ h9 => h9.elim) ?_
  rintro _ μ4 ⟨rfl, x4, f4, r4⟩
  show pm_V _ _ _ _ 44 _ [] _
  refine pm_bl [(.aload_n 0, 1, 0, 0, 0), (.getfield 42, 3, 5, 4, 0), (.aload_n 1, 1, 1, 0, 0), (.getfield 42, 3, 5, 4, 0)] (pc1 := 52) (lo1 := [some (.ref 1), some (.ref 291)]) (st1 := [.ref 312, .ref 22]) (μ1 := μ4) (vc := True) rfl (by decide +kernel) rfl trivial ?_
  refine pm_callV2 mi_X0_copyFrom (ix := 74) (b := 22) (ci := 0) (kc2 := 0) (ks2 := 0) (As := [.ref 312]) (rest := []) (c_X0_copyFrom_1_291 μ4 (lr_Ra.st (b := 291) hR.2.2.2.2.2.1 hm5 (fun k h1 h2 => by rw [f4 _ (by omega), f3 _ (by omega), f2 _ (by omega), f1 _ (by omega)]) (fun _ _ _ => rfl)) hm5) cal_X0_copyFrom lk5_74 (by decide +kernel) rfl (by decide +kernel) rfl rfl rfl rfl (Nat.le_of_ble_eq_true rfl) (by decide) (by decide) (fun _ _ h9 => h9.elim) ?_
  rintro _ μ5 ⟨rfl, x5, f5, r5⟩
  show pm_V _ _ _ _ 55 _ [] _
  refine pm_bl [(.aload_n 0, 1, 0, 0, 0), (.getfield 49, 3, 5, 5, 0), (.aload_n 1, 1, 1, 0, 0), (.getfield 49, 3, 5, 5, 0)] (pc1 := 63) (lo1 := [some (.ref 1), some (.ref 291)]) (st1 := [.ref 316, .ref 26]) (μ1 := μ5) (vc := True) rfl (by decide +kernel) rfl trivial ?_
  refine pm_callV2 mi_X4_copyFrom (ix := 77) (b := 26) (ci := 4) (kc2 := 0) (ks2 := 0) (As := [.ref 316]) (rest := []) (c_X4_copyFrom_1_291 μ5 (lr_Rl.st (b := 291) hR.2.2.2.2.2.2 hm6 (fun k h1 h2 => by rw [f5 _ (by omega), f4 _ (by omega), f3 _ (by omega), f2 _ (by omega), f1 _ (by omega)]) rfl (fun _ _ _ => rfl)) hm6) cal_X4_copyFrom lk5_77 (by decide +kernel) rfl (by decide +kernel) rfl rfl rfl rfl (Nat.le_of_ble_eq_true rfl) (by decide) (by decide) (fun _ _ h9 => h9.elim) ?_
  rintro _ μ6 ⟨rfl, x6, f6, r6⟩
  show pm_V _ _ _ _ 66 _ [] _
  refine pm_bl [(.aload_n 0, 1, 0, 0, 0), (.aload_n 1, 1, 1, 0, 0), (.getfield 53, 3, 5, 6, 0), (.putfield 53, 3, 5, 6, 0)] (pc1 := 74) (lo1 := [some (.ref 1), some (.ref 291)]) (st1 := []) (μ1 := pm_set μ6 1 6 (μ6.1 291 6)) (vc := True) rfl (by decide +kernel) rfl trivial ?_
  exact pm_vret rfl (by decide) (by decide) (by decide +kernel) (⟨rfl, (x6.trans (x5.trans (x4.trans (x3.trans (x2.trans x1))))), fun i hi => by rw [pm_set_off (by omega), f6 _ (by omega), f5 _ (by omega), f4 _ (by omega), f3 _ (by omega), f2 _ (by omega), f1 _ (by omega)], by rw [pm_set_hit, f6 _ (by omega), f5 _ (by omega), f4 _ (by omega), f3 _ (by omega), f2 _ (by omega), f1 _ (by omega)]; exact hR.1, lr_Rh.st (b := 1) r1 hm1 (fun k h1 h2 => by rw [pm_set_off (by omega), f6 _ (by omega), f5 _ (by omega), f4 _ (by omega), f3 _ (by omega), f2 _ (by omega)]) (fun _ _ _ => rfl), lr_Rp.st (b := 1) r2 hm3 (fun k h1 h2 => by rw [pm_set_off (by omega), f6 _ (by omega), f5 _ (by omega), f4 _ (by omega), f3 _ (by omega)]) (fun _ _ _ => rfl), lr_Rw.st (b := 1) r3 hm2 (fun k h1 h2 => by rw [pm_set_off (by omega), f6 _ (by omega), f5 _ (by omega), f4 _ (by omega)]) (fun _ _ _ => rfl), lr_Rr.st (b := 1) r4 hm4 (fun k h1 h2 => by rw [pm_set_off (by omega), f6 _ (by omega), f5 _ (by omega)]) (fun _ _ _ => rfl), lr_Ra.st (b := 1) r5 hm5 (fun k h1 h2 => by rw [pm_set_off (by omega), f6 _ (by omega)]) (fun _ _ _ => rfl), lr_Rl.st (b := 1) r6 hm6 (fun k h1 h2 => by rw [pm_set_off (by omega)]) rfl (fun _ _ _ => rfl)⟩)
set_option maxHeartbeats 4000000 in
set_option maxRecDepth 100000 in
theorem c_X3_copyFrom_1_330 {g : Nat → Int32} (μ : pm_Mm) (hX : lr_Rh μ.1 330 g) (hn : lr_n g 2 ≤ 16) : pm_CT mi_X3_copyFrom [.ref 2, .ref 331] μ (fun v μ2 => v = none ∧ μ2.2 = μ.2 ∧ (∀ i, (i < 2 ∨ 4 < i) → μ2.1 i = μ.1 i) ∧ lr_Rh μ2.1 1 g) pm_NX := by
  refine pm_CT_of (lo := [some (.ref 2), some (.ref 331)]) (by decide +kernel) rfl rfl (by intro v hv; simp at hv; rcases hv with rfl | rfl <;> rfl) (Nat.le_of_ble_eq_true rfl) rfl ?_
  refine pm_bl [(.aload_n 0, 1, 0, 0, 0), (.aload_n 1, 1, 1, 0, 0), (.getfield 9, 3, 3, 0, 0), (.putfield 9, 3, 3, 0, 0), (.aload_n 1, 1, 1, 0, 0), (.getfield 15, 3, 3, 1, 0), (.aload_n 0, 1, 0, 0, 0), (.getfield 15, 3, 3, 1, 0)] (pc1 := 16) (lo1 := [some (.ref 2), some (.ref 331)]) (st1 := [.ref 3, .ref 332]) (μ1 := pm_set μ 2 0 (μ.1 331 0)) (vc := True) rfl (by decide +kernel) rfl trivial ?_
  refine pm_callSN2 mi_X9_copyRow (ix := 22) (host := RX9) (kc2 := 0) (ks2 := 0) (As := [.ref 332, .ref 3]) (rest := []) (c_X9_copyRow (a := 332) (b := 3) (n := 16) (pm_set μ 2 0 (μ.1 331 0)) rfl rfl (by decide)) cal_X9_copyRow (by decide +kernel) (by decide +kernel) (by decide +kernel) rfl rfl (Nat.le_of_ble_eq_true rfl) (by decide) (by decide) ?_
  rintro _ μ1 ⟨rfl, e1⟩
  show pm_V _ _ _ _ 19 _ [] _
  refine pm_bl [(.aload_n 1, 1, 1, 0, 0), (.getfield 19, 3, 3, 2, 0), (.aload_n 0, 1, 0, 0, 0), (.getfield 19, 3, 3, 2, 0)] (pc1 := 27) (lo1 := [some (.ref 2), some (.ref 331)]) (st1 := [.ref 4, .ref 333]) (μ1 := μ1) (vc := True) rfl (by decide +kernel) rfl trivial ?_
  refine pm_callSN2 mi_X9_copyRow (ix := 22) (host := RX9) (kc2 := 0) (ks2 := 0) (As := [.ref 333, .ref 4]) (rest := []) (c_X9_copyRow (a := 333) (b := 4) (n := 16) μ1 rfl rfl (by decide)) cal_X9_copyRow (by decide +kernel) (by decide +kernel) (by decide +kernel) rfl rfl (Nat.le_of_ble_eq_true rfl) (by decide) (by decide) ?_
  rintro _ μ2 ⟨rfl, e2⟩
  show pm_V _ _ _ _ 30 _ [] _
  exact pm_vret rfl (by decide) (by decide) (by decide +kernel) (by
    subst e1; subst e2
    refine ⟨rfl, rfl, fun i hi => by rw [pm_row_off (by omega), pm_row_off (by omega), pm_set_off (by omega)], lr_Rh.mv (b := 330) (b2 := 1) hX hn (by simp only [Nat.reduceAdd]; rw [pm_row_off (by decide), pm_row_off (by decide), pm_set_hit]) (fun k i h1 h2 h3 => ?_) (fun _ _ _ => rfl)⟩
    rcases (show k = 2 ∨ k = 3 by omega) with rfl | rfl
    · simp only [Nat.reduceAdd]; rw [pm_row_off (by decide), pm_row_at]; unfold va_cpy; rw [if_pos (by omega), pm_set_off (by decide), show 0 + (i - 0) = i from by omega]
    · simp only [Nat.reduceAdd]; rw [pm_row_at]; unfold va_cpy; rw [if_pos (by omega), pm_row_off (by decide), pm_set_off (by decide), show 0 + (i - 0) = i from by omega])
set_option maxHeartbeats 4000000 in
set_option maxRecDepth 100000 in
theorem c_X6_copyFrom_1_330 {g : Nat → Int32} (μ : pm_Mm) (hX : lr_Rp μ.1 330 g) (hn : lr_n g 35 ≤ 20) : pm_CT mi_X6_copyFrom [.ref 5, .ref 334] μ (fun v μ2 => v = none ∧ μ2.2 = μ.2 ∧ (∀ i, (i < 5 ∨ 9 < i) → μ2.1 i = μ.1 i) ∧ lr_Rp μ2.1 1 g) pm_NX := by
  refine pm_CT_of (lo := [some (.ref 5), some (.ref 334)]) (by decide +kernel) rfl rfl (by intro v hv; simp at hv; rcases hv with rfl | rfl <;> rfl) (Nat.le_of_ble_eq_true rfl) rfl ?_
  refine pm_bl [(.aload_n 0, 1, 0, 0, 0), (.aload_n 1, 1, 1, 0, 0), (.getfield 9, 3, 6, 0, 0), (.putfield 9, 3, 6, 0, 0), (.aload_n 1, 1, 1, 0, 0), (.getfield 15, 3, 6, 1, 0), (.aload_n 0, 1, 0, 0, 0), (.getfield 15, 3, 6, 1, 0)] (pc1 := 16) (lo1 := [some (.ref 5), some (.ref 334)]) (st1 := [.ref 6, .ref 335]) (μ1 := pm_set μ 5 0 (μ.1 334 0)) (vc := True) rfl (by decide +kernel) rfl trivial ?_
  refine pm_callSN2 mi_X9_copyRow (ix := 28) (host := RX9) (kc2 := 0) (ks2 := 0) (As := [.ref 335, .ref 6]) (rest := []) (c_X9_copyRow (a := 335) (b := 6) (n := 20) (pm_set μ 5 0 (μ.1 334 0)) rfl rfl (by decide)) cal_X9_copyRow (by decide +kernel) (by decide +kernel) (by decide +kernel) rfl rfl (Nat.le_of_ble_eq_true rfl) (by decide) (by decide) ?_
  rintro _ μ1 ⟨rfl, e1⟩
  show pm_V _ _ _ _ 19 _ [] _
  refine pm_bl [(.aload_n 1, 1, 1, 0, 0), (.getfield 19, 3, 6, 2, 0), (.aload_n 0, 1, 0, 0, 0), (.getfield 19, 3, 6, 2, 0)] (pc1 := 27) (lo1 := [some (.ref 5), some (.ref 334)]) (st1 := [.ref 7, .ref 336]) (μ1 := μ1) (vc := True) rfl (by decide +kernel) rfl trivial ?_
  refine pm_callSN2 mi_X9_copyRow (ix := 28) (host := RX9) (kc2 := 0) (ks2 := 0) (As := [.ref 336, .ref 7]) (rest := []) (c_X9_copyRow (a := 336) (b := 7) (n := 20) μ1 rfl rfl (by decide)) cal_X9_copyRow (by decide +kernel) (by decide +kernel) (by decide +kernel) rfl rfl (Nat.le_of_ble_eq_true rfl) (by decide) (by decide) ?_
  rintro _ μ2 ⟨rfl, e2⟩
  show pm_V _ _ _ _ 30 _ [] _
  refine pm_bl [(.aload_n 1, 1, 1, 0, 0), (.getfield 22, 3, 6, 3, 0), (.aload_n 0, 1, 0, 0, 0), (.getfield 22, 3, 6, 3, 0)] (pc1 := 38) (lo1 := [some (.ref 5), some (.ref 334)]) (st1 := [.ref 8, .ref 337]) (μ1 := μ2) (vc := True) rfl (by decide +kernel) rfl trivial ?_
  refine pm_callSN2 mi_X9_copyRow (ix := 28) (host := RX9) (kc2 := 0) (ks2 := 0) (As := [.ref 337, .ref 8]) (rest := []) (c_X9_copyRow (a := 337) (b := 8) (n := 20) μ2 rfl rfl (by decide)) cal_X9_copyRow (by decide +kernel) (by decide +kernel) (by decide +kernel) rfl rfl (Nat.le_of_ble_eq_true rfl) (by decide) (by decide) ?_
  rintro _ μ3 ⟨rfl, e3⟩
  show pm_V _ _ _ _ 41 _ [] _
  refine pm_bl [(.aload_n 1, 1, 1, 0, 0), (.getfield 25, 3, 6, 4, 0), (.aload_n 0, 1, 0, 0, 0), (.getfield 25, 3, 6, 4, 0)] (pc1 := 49) (lo1 := [some (.ref 5), some (.ref 334)]) (st1 := [.ref 9, .ref 338]) (μ1 := μ3) (vc := True) rfl (by decide +kernel) rfl trivial ?_
  refine pm_callSN2 mi_X9_copyRow (ix := 28) (host := RX9) (kc2 := 0) (ks2 := 0) (As := [.ref 338, .ref 9]) (rest := []) (c_X9_copyRow (a := 338) (b := 9) (n := 20) μ3 rfl rfl (by decide)) cal_X9_copyRow (by decide +kernel) (by decide +kernel) (by decide +kernel) rfl rfl (Nat.le_of_ble_eq_true rfl) (by decide) (by decide) ?_
  rintro _ μ4 ⟨rfl, e4⟩
  show pm_V _ _ _ _ 52 _ [] _
  exact pm_vret rfl (by decide) (by decide) (by decide +kernel) (by
    subst e1; subst e2; subst e3; subst e4
    refine ⟨rfl, rfl, fun i hi => by rw [pm_row_off (by omega), pm_row_off (by omega), pm_row_off (by omega), pm_row_off (by omega), pm_set_off (by omega)], lr_Rp.mv (b := 330) (b2 := 1) hX hn (by simp only [Nat.reduceAdd]; rw [pm_row_off (by decide), pm_row_off (by decide), pm_row_off (by decide), pm_row_off (by decide), pm_set_hit]) (fun k i h1 h2 h3 => ?_) (fun _ _ _ => rfl)⟩
    rcases (show k = 5 ∨ k = 6 ∨ k = 7 ∨ k = 8 by omega) with rfl | rfl | rfl | rfl
    · simp only [Nat.reduceAdd]; rw [pm_row_off (by decide), pm_row_off (by decide), pm_row_off (by decide), pm_row_at]; unfold va_cpy; rw [if_pos (by omega), pm_set_off (by decide), show 0 + (i - 0) = i from by omega]
    · simp only [Nat.reduceAdd]; rw [pm_row_off (by decide), pm_row_off (by decide), pm_row_at]; unfold va_cpy; rw [if_pos (by omega), pm_row_off (by decide), pm_set_off (by decide), show 0 + (i - 0) = i from by omega]
    · simp only [Nat.reduceAdd]; rw [pm_row_off (by decide), pm_row_at]; unfold va_cpy; rw [if_pos (by omega), pm_row_off (by decide), pm_row_off (by decide), pm_set_off (by decide), show 0 + (i - 0) = i from by omega]
    · simp only [Nat.reduceAdd]; rw [pm_row_at]; unfold va_cpy; rw [if_pos (by omega), pm_row_off (by decide), pm_row_off (by decide), pm_row_off (by decide), pm_set_off (by decide), show 0 + (i - 0) = i from by omega])
set_option maxHeartbeats 4000000 in
set_option maxRecDepth 100000 in
theorem c_X8_copyFrom_1_330 {g : Nat → Int32} (μ : pm_Mm) (hX : lr_Rw μ.1 330 g) (hn : lr_n g 116 ≤ 10) : pm_CT mi_X8_copyFrom [.ref 10, .ref 339] μ (fun v μ2 => v = none ∧ μ2.2 = μ.2 ∧ (∀ i, (i < 10 ∨ 15 < i) → μ2.1 i = μ.1 i) ∧ lr_Rw μ2.1 1 g) pm_NX := by
  refine pm_CT_of (lo := [some (.ref 10), some (.ref 339)]) (by decide +kernel) rfl rfl (by intro v hv; simp at hv; rcases hv with rfl | rfl <;> rfl) (Nat.le_of_ble_eq_true rfl) rfl ?_
  refine pm_bl [(.aload_n 0, 1, 0, 0, 0), (.aload_n 1, 1, 1, 0, 0), (.getfield 9, 3, 8, 0, 0), (.putfield 9, 3, 8, 0, 0), (.aload_n 1, 1, 1, 0, 0), (.getfield 15, 3, 8, 1, 0), (.aload_n 0, 1, 0, 0, 0), (.getfield 15, 3, 8, 1, 0)] (pc1 := 16) (lo1 := [some (.ref 10), some (.ref 339)]) (st1 := [.ref 11, .ref 340]) (μ1 := pm_set μ 10 0 (μ.1 339 0)) (vc := True) rfl (by decide +kernel) rfl trivial ?_
  refine pm_callSN2 mi_X9_copyRow (ix := 31) (host := RX9) (kc2 := 0) (ks2 := 0) (As := [.ref 340, .ref 11]) (rest := []) (c_X9_copyRow (a := 340) (b := 11) (n := 10) (pm_set μ 10 0 (μ.1 339 0)) rfl rfl (by decide)) cal_X9_copyRow (by decide +kernel) (by decide +kernel) (by decide +kernel) rfl rfl (Nat.le_of_ble_eq_true rfl) (by decide) (by decide) ?_
  rintro _ μ1 ⟨rfl, e1⟩
  show pm_V _ _ _ _ 19 _ [] _
  refine pm_bl [(.aload_n 1, 1, 1, 0, 0), (.getfield 19, 3, 8, 2, 0), (.aload_n 0, 1, 0, 0, 0), (.getfield 19, 3, 8, 2, 0)] (pc1 := 27) (lo1 := [some (.ref 10), some (.ref 339)]) (st1 := [.ref 12, .ref 341]) (μ1 := μ1) (vc := True) rfl (by decide +kernel) rfl trivial ?_
  refine pm_callSN2 mi_X9_copyRow (ix := 31) (host := RX9) (kc2 := 0) (ks2 := 0) (As := [.ref 341, .ref 12]) (rest := []) (c_X9_copyRow (a := 341) (b := 12) (n := 10) μ1 rfl rfl (by decide)) cal_X9_copyRow (by decide +kernel) (by decide +kernel) (by decide +kernel) rfl rfl (Nat.le_of_ble_eq_true rfl) (by decide) (by decide) ?_
  rintro _ μ2 ⟨rfl, e2⟩
  show pm_V _ _ _ _ 30 _ [] _
  refine pm_bl [(.aload_n 1, 1, 1, 0, 0), (.getfield 22, 3, 8, 3, 0), (.aload_n 0, 1, 0, 0, 0), (.getfield 22, 3, 8, 3, 0)] (pc1 := 38) (lo1 := [some (.ref 10), some (.ref 339)]) (st1 := [.ref 13, .ref 342]) (μ1 := μ2) (vc := True) rfl (by decide +kernel) rfl trivial ?_
  refine pm_callSN2 mi_X9_copyRow (ix := 31) (host := RX9) (kc2 := 0) (ks2 := 0) (As := [.ref 342, .ref 13]) (rest := []) (c_X9_copyRow (a := 342) (b := 13) (n := 10) μ2 rfl rfl (by decide)) cal_X9_copyRow (by decide +kernel) (by decide +kernel) (by decide +kernel) rfl rfl (Nat.le_of_ble_eq_true rfl) (by decide) (by decide) ?_
  rintro _ μ3 ⟨rfl, e3⟩
  show pm_V _ _ _ _ 41 _ [] _
  refine pm_bl [(.aload_n 1, 1, 1, 0, 0), (.getfield 25, 3, 8, 4, 0), (.aload_n 0, 1, 0, 0, 0), (.getfield 25, 3, 8, 4, 0)] (pc1 := 49) (lo1 := [some (.ref 10), some (.ref 339)]) (st1 := [.ref 14, .ref 343]) (μ1 := μ3) (vc := True) rfl (by decide +kernel) rfl trivial ?_
  refine pm_callSN2 mi_X9_copyRow (ix := 31) (host := RX9) (kc2 := 0) (ks2 := 0) (As := [.ref 343, .ref 14]) (rest := []) (c_X9_copyRow (a := 343) (b := 14) (n := 10) μ3 rfl rfl (by decide)) cal_X9_copyRow (by decide +kernel) (by decide +kernel) (by decide +kernel) rfl rfl (Nat.le_of_ble_eq_true rfl) (by decide) (by decide) ?_
  rintro _ μ4 ⟨rfl, e4⟩
  show pm_V _ _ _ _ 52 _ [] _
  refine pm_bl [(.aload_n 1, 1, 1, 0, 0), (.getfield 28, 3, 8, 5, 0), (.aload_n 0, 1, 0, 0, 0), (.getfield 28, 3, 8, 5, 0)] (pc1 := 60) (lo1 := [some (.ref 10), some (.ref 339)]) (st1 := [.ref 15, .ref 344]) (μ1 := μ4) (vc := True) rfl (by decide +kernel) rfl trivial ?_
  refine pm_callSN2 mi_X9_copyRow (ix := 31) (host := RX9) (kc2 := 0) (ks2 := 0) (As := [.ref 344, .ref 15]) (rest := []) (c_X9_copyRow (a := 344) (b := 15) (n := 10) μ4 rfl rfl (by decide)) cal_X9_copyRow (by decide +kernel) (by decide +kernel) (by decide +kernel) rfl rfl (Nat.le_of_ble_eq_true rfl) (by decide) (by decide) ?_
  rintro _ μ5 ⟨rfl, e5⟩
  show pm_V _ _ _ _ 63 _ [] _
  exact pm_vret rfl (by decide) (by decide) (by decide +kernel) (by
    subst e1; subst e2; subst e3; subst e4; subst e5
    refine ⟨rfl, rfl, fun i hi => by rw [pm_row_off (by omega), pm_row_off (by omega), pm_row_off (by omega), pm_row_off (by omega), pm_row_off (by omega), pm_set_off (by omega)], lr_Rw.mv (b := 330) (b2 := 1) hX hn (by simp only [Nat.reduceAdd]; rw [pm_row_off (by decide), pm_row_off (by decide), pm_row_off (by decide), pm_row_off (by decide), pm_row_off (by decide), pm_set_hit]) (fun k i h1 h2 h3 => ?_) (fun _ _ _ => rfl)⟩
    rcases (show k = 10 ∨ k = 11 ∨ k = 12 ∨ k = 13 ∨ k = 14 by omega) with rfl | rfl | rfl | rfl | rfl
    · simp only [Nat.reduceAdd]; rw [pm_row_off (by decide), pm_row_off (by decide), pm_row_off (by decide), pm_row_off (by decide), pm_row_at]; unfold va_cpy; rw [if_pos (by omega), pm_set_off (by decide), show 0 + (i - 0) = i from by omega]
    · simp only [Nat.reduceAdd]; rw [pm_row_off (by decide), pm_row_off (by decide), pm_row_off (by decide), pm_row_at]; unfold va_cpy; rw [if_pos (by omega), pm_row_off (by decide), pm_set_off (by decide), show 0 + (i - 0) = i from by omega]
    · simp only [Nat.reduceAdd]; rw [pm_row_off (by decide), pm_row_off (by decide), pm_row_at]; unfold va_cpy; rw [if_pos (by omega), pm_row_off (by decide), pm_row_off (by decide), pm_set_off (by decide), show 0 + (i - 0) = i from by omega]
    · simp only [Nat.reduceAdd]; rw [pm_row_off (by decide), pm_row_at]; unfold va_cpy; rw [if_pos (by omega), pm_row_off (by decide), pm_row_off (by decide), pm_row_off (by decide), pm_set_off (by decide), show 0 + (i - 0) = i from by omega]
    · simp only [Nat.reduceAdd]; rw [pm_row_at]; unfold va_cpy; rw [if_pos (by omega), pm_row_off (by decide), pm_row_off (by decide), pm_row_off (by decide), pm_row_off (by decide), pm_set_off (by decide), show 0 + (i - 0) = i from by omega])
set_option maxHeartbeats 4000000 in
set_option maxRecDepth 100000 in
theorem c_X7_copyFrom_1_330 {g : Nat → Int32} (μ : pm_Mm) (hX : lr_Rr μ.1 330 g) (hn : lr_n g 167 ≤ 12) : pm_CT mi_X7_copyFrom [.ref 16, .ref 345] μ (fun v μ2 => v = none ∧ μ2.2 = μ.2 ∧ (∀ i, (i < 16 ∨ 21 < i) → μ2.1 i = μ.1 i) ∧ lr_Rr μ2.1 1 g) pm_NX := by
  refine pm_CT_of (lo := [some (.ref 16), some (.ref 345)]) (by decide +kernel) rfl rfl (by intro v hv; simp at hv; rcases hv with rfl | rfl <;> rfl) (Nat.le_of_ble_eq_true rfl) rfl ?_
  refine pm_bl [(.aload_n 0, 1, 0, 0, 0), (.aload_n 1, 1, 1, 0, 0), (.getfield 9, 3, 7, 0, 0), (.putfield 9, 3, 7, 0, 0), (.aload_n 1, 1, 1, 0, 0), (.getfield 15, 3, 7, 1, 0), (.aload_n 0, 1, 0, 0, 0), (.getfield 15, 3, 7, 1, 0)] (pc1 := 16) (lo1 := [some (.ref 16), some (.ref 345)]) (st1 := [.ref 17, .ref 346]) (μ1 := pm_set μ 16 0 (μ.1 345 0)) (vc := True) rfl (by decide +kernel) rfl trivial ?_
  refine pm_callSN2 mi_X9_copyRow (ix := 31) (host := RX9) (kc2 := 0) (ks2 := 0) (As := [.ref 346, .ref 17]) (rest := []) (c_X9_copyRow (a := 346) (b := 17) (n := 12) (pm_set μ 16 0 (μ.1 345 0)) rfl rfl (by decide)) cal_X9_copyRow (by decide +kernel) (by decide +kernel) (by decide +kernel) rfl rfl (Nat.le_of_ble_eq_true rfl) (by decide) (by decide) ?_
  rintro _ μ1 ⟨rfl, e1⟩
  show pm_V _ _ _ _ 19 _ [] _
  refine pm_bl [(.aload_n 1, 1, 1, 0, 0), (.getfield 19, 3, 7, 2, 0), (.aload_n 0, 1, 0, 0, 0), (.getfield 19, 3, 7, 2, 0)] (pc1 := 27) (lo1 := [some (.ref 16), some (.ref 345)]) (st1 := [.ref 18, .ref 347]) (μ1 := μ1) (vc := True) rfl (by decide +kernel) rfl trivial ?_
  refine pm_callSN2 mi_X9_copyRow (ix := 31) (host := RX9) (kc2 := 0) (ks2 := 0) (As := [.ref 347, .ref 18]) (rest := []) (c_X9_copyRow (a := 347) (b := 18) (n := 12) μ1 rfl rfl (by decide)) cal_X9_copyRow (by decide +kernel) (by decide +kernel) (by decide +kernel) rfl rfl (Nat.le_of_ble_eq_true rfl) (by decide) (by decide) ?_
  rintro _ μ2 ⟨rfl, e2⟩
  show pm_V _ _ _ _ 30 _ [] _
  refine pm_bl [(.aload_n 1, 1, 1, 0, 0), (.getfield 22, 3, 7, 3, 0), (.aload_n 0, 1, 0, 0, 0), (.getfield 22, 3, 7, 3, 0)] (pc1 := 38) (lo1 := [some (.ref 16), some (.ref 345)]) (st1 := [.ref 19, .ref 348]) (μ1 := μ2) (vc := True) rfl (by decide +kernel) rfl trivial ?_
  refine pm_callSN2 mi_X9_copyRow (ix := 31) (host := RX9) (kc2 := 0) (ks2 := 0) (As := [.ref 348, .ref 19]) (rest := []) (c_X9_copyRow (a := 348) (b := 19) (n := 12) μ2 rfl rfl (by decide)) cal_X9_copyRow (by decide +kernel) (by decide +kernel) (by decide +kernel) rfl rfl (Nat.le_of_ble_eq_true rfl) (by decide) (by decide) ?_
  rintro _ μ3 ⟨rfl, e3⟩
  show pm_V _ _ _ _ 41 _ [] _
  refine pm_bl [(.aload_n 1, 1, 1, 0, 0), (.getfield 25, 3, 7, 4, 0), (.aload_n 0, 1, 0, 0, 0), (.getfield 25, 3, 7, 4, 0)] (pc1 := 49) (lo1 := [some (.ref 16), some (.ref 345)]) (st1 := [.ref 20, .ref 349]) (μ1 := μ3) (vc := True) rfl (by decide +kernel) rfl trivial ?_
  refine pm_callSN2 mi_X9_copyRow (ix := 31) (host := RX9) (kc2 := 0) (ks2 := 0) (As := [.ref 349, .ref 20]) (rest := []) (c_X9_copyRow (a := 349) (b := 20) (n := 12) μ3 rfl rfl (by decide)) cal_X9_copyRow (by decide +kernel) (by decide +kernel) (by decide +kernel) rfl rfl (Nat.le_of_ble_eq_true rfl) (by decide) (by decide) ?_
  rintro _ μ4 ⟨rfl, e4⟩
  show pm_V _ _ _ _ 52 _ [] _
  refine pm_bl [(.aload_n 1, 1, 1, 0, 0), (.getfield 28, 3, 7, 5, 0), (.aload_n 0, 1, 0, 0, 0), (.getfield 28, 3, 7, 5, 0)] (pc1 := 60) (lo1 := [some (.ref 16), some (.ref 345)]) (st1 := [.ref 21, .ref 350]) (μ1 := μ4) (vc := True) rfl (by decide +kernel) rfl trivial ?_
  refine pm_callSN2 mi_X9_copyRow (ix := 31) (host := RX9) (kc2 := 0) (ks2 := 0) (As := [.ref 350, .ref 21]) (rest := []) (c_X9_copyRow (a := 350) (b := 21) (n := 12) μ4 rfl rfl (by decide)) cal_X9_copyRow (by decide +kernel) (by decide +kernel) (by decide +kernel) rfl rfl (Nat.le_of_ble_eq_true rfl) (by decide) (by decide) ?_
  rintro _ μ5 ⟨rfl, e5⟩
  show pm_V _ _ _ _ 63 _ [] _
  exact pm_vret rfl (by decide) (by decide) (by decide +kernel) (by
    subst e1; subst e2; subst e3; subst e4; subst e5
    refine ⟨rfl, rfl, fun i hi => by rw [pm_row_off (by omega), pm_row_off (by omega), pm_row_off (by omega), pm_row_off (by omega), pm_row_off (by omega), pm_set_off (by omega)], lr_Rr.mv (b := 330) (b2 := 1) hX hn (by simp only [Nat.reduceAdd]; rw [pm_row_off (by decide), pm_row_off (by decide), pm_row_off (by decide), pm_row_off (by decide), pm_row_off (by decide), pm_set_hit]) (fun k i h1 h2 h3 => ?_) (fun _ _ _ => rfl)⟩
    rcases (show k = 16 ∨ k = 17 ∨ k = 18 ∨ k = 19 ∨ k = 20 by omega) with rfl | rfl | rfl | rfl | rfl
    · simp only [Nat.reduceAdd]; rw [pm_row_off (by decide), pm_row_off (by decide), pm_row_off (by decide), pm_row_off (by decide), pm_row_at]; unfold va_cpy; rw [if_pos (by omega), pm_set_off (by decide), show 0 + (i - 0) = i from by omega]
    · simp only [Nat.reduceAdd]; rw [pm_row_off (by decide), pm_row_off (by decide), pm_row_off (by decide), pm_row_at]; unfold va_cpy; rw [if_pos (by omega), pm_row_off (by decide), pm_set_off (by decide), show 0 + (i - 0) = i from by omega]
    · simp only [Nat.reduceAdd]; rw [pm_row_off (by decide), pm_row_off (by decide), pm_row_at]; unfold va_cpy; rw [if_pos (by omega), pm_row_off (by decide), pm_row_off (by decide), pm_set_off (by decide), show 0 + (i - 0) = i from by omega]
    · simp only [Nat.reduceAdd]; rw [pm_row_off (by decide), pm_row_at]; unfold va_cpy; rw [if_pos (by omega), pm_row_off (by decide), pm_row_off (by decide), pm_row_off (by decide), pm_set_off (by decide), show 0 + (i - 0) = i from by omega]
    · simp only [Nat.reduceAdd]; rw [pm_row_at]; unfold va_cpy; rw [if_pos (by omega), pm_row_off (by decide), pm_row_off (by decide), pm_row_off (by decide), pm_row_off (by decide), pm_set_off (by decide), show 0 + (i - 0) = i from by omega])
set_option maxHeartbeats 4000000 in
set_option maxRecDepth 100000 in
theorem c_X0_copyFrom_1_330 {g : Nat → Int32} (μ : pm_Mm) (hX : lr_Ra μ.1 330 g) (hn : lr_n g 228 ≤ 20) : pm_CT mi_X0_copyFrom [.ref 22, .ref 351] μ (fun v μ2 => v = none ∧ μ2.2 = μ.2 ∧ (∀ i, (i < 22 ∨ 25 < i) → μ2.1 i = μ.1 i) ∧ lr_Ra μ2.1 1 g) pm_NX := by
  refine pm_CT_of (lo := [some (.ref 22), some (.ref 351)]) (by decide +kernel) rfl rfl (by intro v hv; simp at hv; rcases hv with rfl | rfl <;> rfl) (Nat.le_of_ble_eq_true rfl) rfl ?_
  refine pm_bl [(.aload_n 0, 1, 0, 0, 0), (.aload_n 1, 1, 1, 0, 0), (.getfield 9, 3, 0, 0, 0), (.putfield 9, 3, 0, 0, 0), (.aload_n 1, 1, 1, 0, 0), (.getfield 15, 3, 0, 1, 0), (.aload_n 0, 1, 0, 0, 0), (.getfield 15, 3, 0, 1, 0)] (pc1 := 16) (lo1 := [some (.ref 22), some (.ref 351)]) (st1 := [.ref 23, .ref 352]) (μ1 := pm_set μ 22 0 (μ.1 351 0)) (vc := True) rfl (by decide +kernel) rfl trivial ?_
  refine pm_callSN2 mi_X9_copyRow (ix := 25) (host := RX9) (kc2 := 0) (ks2 := 0) (As := [.ref 352, .ref 23]) (rest := []) (c_X9_copyRow (a := 352) (b := 23) (n := 20) (pm_set μ 22 0 (μ.1 351 0)) rfl rfl (by decide)) cal_X9_copyRow (by decide +kernel) (by decide +kernel) (by decide +kernel) rfl rfl (Nat.le_of_ble_eq_true rfl) (by decide) (by decide) ?_
  rintro _ μ1 ⟨rfl, e1⟩
  show pm_V _ _ _ _ 19 _ [] _
  refine pm_bl [(.aload_n 1, 1, 1, 0, 0), (.getfield 19, 3, 0, 2, 0), (.aload_n 0, 1, 0, 0, 0), (.getfield 19, 3, 0, 2, 0)] (pc1 := 27) (lo1 := [some (.ref 22), some (.ref 351)]) (st1 := [.ref 24, .ref 353]) (μ1 := μ1) (vc := True) rfl (by decide +kernel) rfl trivial ?_
  refine pm_callSN2 mi_X9_copyRow (ix := 25) (host := RX9) (kc2 := 0) (ks2 := 0) (As := [.ref 353, .ref 24]) (rest := []) (c_X9_copyRow (a := 353) (b := 24) (n := 20) μ1 rfl rfl (by decide)) cal_X9_copyRow (by decide +kernel) (by decide +kernel) (by decide +kernel) rfl rfl (Nat.le_of_ble_eq_true rfl) (by decide) (by decide) ?_
  rintro _ μ2 ⟨rfl, e2⟩
  show pm_V _ _ _ _ 30 _ [] _
  refine pm_bl [(.aload_n 1, 1, 1, 0, 0), (.getfield 22, 3, 0, 3, 0), (.aload_n 0, 1, 0, 0, 0), (.getfield 22, 3, 0, 3, 0)] (pc1 := 38) (lo1 := [some (.ref 22), some (.ref 351)]) (st1 := [.ref 25, .ref 354]) (μ1 := μ2) (vc := True) rfl (by decide +kernel) rfl trivial ?_
  refine pm_callSN2 mi_X9_copyRow (ix := 25) (host := RX9) (kc2 := 0) (ks2 := 0) (As := [.ref 354, .ref 25]) (rest := []) (c_X9_copyRow (a := 354) (b := 25) (n := 20) μ2 rfl rfl (by decide)) cal_X9_copyRow (by decide +kernel) (by decide +kernel) (by decide +kernel) rfl rfl (Nat.le_of_ble_eq_true rfl) (by decide) (by decide) ?_
  rintro _ μ3 ⟨rfl, e3⟩
  show pm_V _ _ _ _ 41 _ [] _
  exact pm_vret rfl (by decide) (by decide) (by decide +kernel) (by
    subst e1; subst e2; subst e3
    refine ⟨rfl, rfl, fun i hi => by rw [pm_row_off (by omega), pm_row_off (by omega), pm_row_off (by omega), pm_set_off (by omega)], lr_Ra.mv (b := 330) (b2 := 1) hX hn (by simp only [Nat.reduceAdd]; rw [pm_row_off (by decide), pm_row_off (by decide), pm_row_off (by decide), pm_set_hit]) (fun k i h1 h2 h3 => ?_) (fun _ _ _ => rfl)⟩
    rcases (show k = 22 ∨ k = 23 ∨ k = 24 by omega) with rfl | rfl | rfl
    · simp only [Nat.reduceAdd]; rw [pm_row_off (by decide), pm_row_off (by decide), pm_row_at]; unfold va_cpy; rw [if_pos (by omega), pm_set_off (by decide), show 0 + (i - 0) = i from by omega]
    · simp only [Nat.reduceAdd]; rw [pm_row_off (by decide), pm_row_at]; unfold va_cpy; rw [if_pos (by omega), pm_row_off (by decide), pm_set_off (by decide), show 0 + (i - 0) = i from by omega]
    · simp only [Nat.reduceAdd]; rw [pm_row_at]; unfold va_cpy; rw [if_pos (by omega), pm_row_off (by decide), pm_row_off (by decide), pm_set_off (by decide), show 0 + (i - 0) = i from by omega])
set_option maxHeartbeats 4000000 in
set_option maxRecDepth 100000 in
theorem c_X4_copyFrom_1_330 {g : Nat → Int32} (μ : pm_Mm) (hX : lr_Rl μ.1 330 g) (hn : lr_n g 289 ≤ 30) : pm_CT mi_X4_copyFrom [.ref 26, .ref 355] μ (fun v μ2 => v = none ∧ μ2.2 = μ.2 ∧ (∀ i, (i < 26 ∨ 38 < i) → μ2.1 i = μ.1 i) ∧ lr_Rl μ2.1 1 g) pm_NX := by
  refine pm_CT_of (lo := [some (.ref 26), some (.ref 355)]) (by decide +kernel) rfl rfl (by intro v hv; simp at hv; rcases hv with rfl | rfl <;> rfl) (Nat.le_of_ble_eq_true rfl) rfl ?_
  refine pm_bl [(.aload_n 0, 1, 0, 0, 0), (.aload_n 1, 1, 1, 0, 0), (.getfield 9, 3, 4, 0, 0), (.putfield 9, 3, 4, 0, 0), (.aload_n 0, 1, 0, 0, 0), (.aload_n 1, 1, 1, 0, 0), (.getfield 15, 3, 4, 1, 0), (.putfield 15, 3, 4, 1, 0), (.aload_n 1, 1, 1, 0, 0), (.getfield 18, 3, 4, 2, 0), (.aload_n 0, 1, 0, 0, 0), (.getfield 18, 3, 4, 2, 0)] (pc1 := 24) (lo1 := [some (.ref 26), some (.ref 355)]) (st1 := [.ref 27, .ref 356]) (μ1 := pm_set (pm_set μ 26 0 (μ.1 355 0)) 26 1 ((pm_set μ 26 0 (μ.1 355 0)).1 355 1)) (vc := True) rfl (by decide +kernel) rfl trivial ?_
  rw [show (pm_set μ 26 0 (μ.1 355 0)).1 355 1 = μ.1 355 1 from by simp [pm_set]]
  refine pm_callSN2 mi_X9_copyRow (ix := 55) (host := RX9) (kc2 := 0) (ks2 := 0) (As := [.ref 356, .ref 27]) (rest := []) (c_X9_copyRow (a := 356) (b := 27) (n := 30) (pm_set (pm_set μ 26 0 (μ.1 355 0)) 26 1 (μ.1 355 1)) rfl rfl (by decide)) cal_X9_copyRow (by decide +kernel) (by decide +kernel) (by decide +kernel) rfl rfl (Nat.le_of_ble_eq_true rfl) (by decide) (by decide) ?_
  rintro _ μ1 ⟨rfl, e1⟩
  show pm_V _ _ _ _ 27 _ [] _
  refine pm_bl [(.aload_n 1, 1, 1, 0, 0), (.getfield 22, 3, 4, 3, 0), (.aload_n 0, 1, 0, 0, 0), (.getfield 22, 3, 4, 3, 0)] (pc1 := 35) (lo1 := [some (.ref 26), some (.ref 355)]) (st1 := [.ref 28, .ref 357]) (μ1 := μ1) (vc := True) rfl (by decide +kernel) rfl trivial ?_
  refine pm_callSN2 mi_X9_copyRow (ix := 55) (host := RX9) (kc2 := 0) (ks2 := 0) (As := [.ref 357, .ref 28]) (rest := []) (c_X9_copyRow (a := 357) (b := 28) (n := 30) μ1 rfl rfl (by decide)) cal_X9_copyRow (by decide +kernel) (by decide +kernel) (by decide +kernel) rfl rfl (Nat.le_of_ble_eq_true rfl) (by decide) (by decide) ?_
  rintro _ μ2 ⟨rfl, e2⟩
  show pm_V _ _ _ _ 38 _ [] _
  refine pm_bl [(.aload_n 1, 1, 1, 0, 0), (.getfield 25, 3, 4, 4, 0), (.aload_n 0, 1, 0, 0, 0), (.getfield 25, 3, 4, 4, 0)] (pc1 := 46) (lo1 := [some (.ref 26), some (.ref 355)]) (st1 := [.ref 29, .ref 358]) (μ1 := μ2) (vc := True) rfl (by decide +kernel) rfl trivial ?_
  refine pm_callSN2 mi_X9_copyRow (ix := 55) (host := RX9) (kc2 := 0) (ks2 := 0) (As := [.ref 358, .ref 29]) (rest := []) (c_X9_copyRow (a := 358) (b := 29) (n := 30) μ2 rfl rfl (by decide)) cal_X9_copyRow (by decide +kernel) (by decide +kernel) (by decide +kernel) rfl rfl (Nat.le_of_ble_eq_true rfl) (by decide) (by decide) ?_
  rintro _ μ3 ⟨rfl, e3⟩
  show pm_V _ _ _ _ 49 _ [] _
  refine pm_bl [(.aload_n 1, 1, 1, 0, 0), (.getfield 28, 3, 4, 5, 0), (.aload_n 0, 1, 0, 0, 0), (.getfield 28, 3, 4, 5, 0)] (pc1 := 57) (lo1 := [some (.ref 26), some (.ref 355)]) (st1 := [.ref 30, .ref 359]) (μ1 := μ3) (vc := True) rfl (by decide +kernel) rfl trivial ?_
  refine pm_callSN2 mi_X9_copyRow (ix := 55) (host := RX9) (kc2 := 0) (ks2 := 0) (As := [.ref 359, .ref 30]) (rest := []) (c_X9_copyRow (a := 359) (b := 30) (n := 30) μ3 rfl rfl (by decide)) cal_X9_copyRow (by decide +kernel) (by decide +kernel) (by decide +kernel) rfl rfl (Nat.le_of_ble_eq_true rfl) (by decide) (by decide) ?_
  rintro _ μ4 ⟨rfl, e4⟩
  show pm_V _ _ _ _ 60 _ [] _
  refine pm_bl [(.aload_n 1, 1, 1, 0, 0), (.getfield 31, 3, 4, 6, 0), (.aload_n 0, 1, 0, 0, 0), (.getfield 31, 3, 4, 6, 0)] (pc1 := 68) (lo1 := [some (.ref 26), some (.ref 355)]) (st1 := [.ref 31, .ref 360]) (μ1 := μ4) (vc := True) rfl (by decide +kernel) rfl trivial ?_
  refine pm_callSN2 mi_X9_copyRow (ix := 55) (host := RX9) (kc2 := 0) (ks2 := 0) (As := [.ref 360, .ref 31]) (rest := []) (c_X9_copyRow (a := 360) (b := 31) (n := 30) μ4 rfl rfl (by decide)) cal_X9_copyRow (by decide +kernel) (by decide +kernel) (by decide +kernel) rfl rfl (Nat.le_of_ble_eq_true rfl) (by decide) (by decide) ?_
  rintro _ μ5 ⟨rfl, e5⟩
  show pm_V _ _ _ _ 71 _ [] _
  refine pm_bl [(.aload_n 1, 1, 1, 0, 0), (.getfield 34, 3, 4, 7, 0), (.aload_n 0, 1, 0, 0, 0), (.getfield 34, 3, 4, 7, 0)] (pc1 := 79) (lo1 := [some (.ref 26), some (.ref 355)]) (st1 := [.ref 32, .ref 361]) (μ1 := μ5) (vc := True) rfl (by decide +kernel) rfl trivial ?_
  refine pm_callSN2 mi_X9_copyRow (ix := 55) (host := RX9) (kc2 := 0) (ks2 := 0) (As := [.ref 361, .ref 32]) (rest := []) (c_X9_copyRow (a := 361) (b := 32) (n := 30) μ5 rfl rfl (by decide)) cal_X9_copyRow (by decide +kernel) (by decide +kernel) (by decide +kernel) rfl rfl (Nat.le_of_ble_eq_true rfl) (by decide) (by decide) ?_
  rintro _ μ6 ⟨rfl, e6⟩
  show pm_V _ _ _ _ 82 _ [] _
  refine pm_bl [(.aload_n 1, 1, 1, 0, 0), (.getfield 37, 3, 4, 8, 0), (.aload_n 0, 1, 0, 0, 0), (.getfield 37, 3, 4, 8, 0)] (pc1 := 90) (lo1 := [some (.ref 26), some (.ref 355)]) (st1 := [.ref 33, .ref 362]) (μ1 := μ6) (vc := True) rfl (by decide +kernel) rfl trivial ?_
  refine pm_callSN2 mi_X9_copyRow (ix := 55) (host := RX9) (kc2 := 0) (ks2 := 0) (As := [.ref 362, .ref 33]) (rest := []) (c_X9_copyRow (a := 362) (b := 33) (n := 30) μ6 rfl rfl (by decide)) cal_X9_copyRow (by decide +kernel) (by decide +kernel) (by decide +kernel) rfl rfl (Nat.le_of_ble_eq_true rfl) (by decide) (by decide) ?_
  rintro _ μ7 ⟨rfl, e7⟩
  show pm_V _ _ _ _ 93 _ [] _
  refine pm_bl [(.aload_n 1, 1, 1, 0, 0), (.getfield 40, 3, 4, 9, 0), (.aload_n 0, 1, 0, 0, 0), (.getfield 40, 3, 4, 9, 0)] (pc1 := 101) (lo1 := [some (.ref 26), some (.ref 355)]) (st1 := [.ref 34, .ref 363]) (μ1 := μ7) (vc := True) rfl (by decide +kernel) rfl trivial ?_
  refine pm_callSN2 mi_X9_copyRow (ix := 55) (host := RX9) (kc2 := 0) (ks2 := 0) (As := [.ref 363, .ref 34]) (rest := []) (c_X9_copyRow (a := 363) (b := 34) (n := 30) μ7 rfl rfl (by decide)) cal_X9_copyRow (by decide +kernel) (by decide +kernel) (by decide +kernel) rfl rfl (Nat.le_of_ble_eq_true rfl) (by decide) (by decide) ?_
  rintro _ μ8 ⟨rfl, e8⟩
  show pm_V _ _ _ _ 104 _ [] _
  refine pm_bl [(.aload_n 1, 1, 1, 0, 0), (.getfield 43, 3, 4, 10, 0), (.aload_n 0, 1, 0, 0, 0), (.getfield 43, 3, 4, 10, 0)] (pc1 := 112) (lo1 := [some (.ref 26), some (.ref 355)]) (st1 := [.ref 35, .ref 364]) (μ1 := μ8) (vc := True) rfl (by decide +kernel) rfl trivial ?_
  refine pm_callSN2 mi_X9_copyRow (ix := 55) (host := RX9) (kc2 := 0) (ks2 := 0) (As := [.ref 364, .ref 35]) (rest := []) (c_X9_copyRow (a := 364) (b := 35) (n := 30) μ8 rfl rfl (by decide)) cal_X9_copyRow (by decide +kernel) (by decide +kernel) (by decide +kernel) rfl rfl (Nat.le_of_ble_eq_true rfl) (by decide) (by decide) ?_
  rintro _ μ9 ⟨rfl, e9⟩
  show pm_V _ _ _ _ 115 _ [] _
  refine pm_bl [(.aload_n 1, 1, 1, 0, 0), (.getfield 46, 3, 4, 11, 0), (.aload_n 0, 1, 0, 0, 0), (.getfield 46, 3, 4, 11, 0)] (pc1 := 123) (lo1 := [some (.ref 26), some (.ref 355)]) (st1 := [.ref 36, .ref 365]) (μ1 := μ9) (vc := True) rfl (by decide +kernel) rfl trivial ?_
  refine pm_callSN2 mi_X9_copyRow (ix := 55) (host := RX9) (kc2 := 0) (ks2 := 0) (As := [.ref 365, .ref 36]) (rest := []) (c_X9_copyRow (a := 365) (b := 36) (n := 30) μ9 rfl rfl (by decide)) cal_X9_copyRow (by decide +kernel) (by decide +kernel) (by decide +kernel) rfl rfl (Nat.le_of_ble_eq_true rfl) (by decide) (by decide) ?_
  rintro _ μ10 ⟨rfl, e10⟩
  show pm_V _ _ _ _ 126 _ [] _
  refine pm_bl [(.aload_n 1, 1, 1, 0, 0), (.getfield 49, 3, 4, 12, 0), (.aload_n 0, 1, 0, 0, 0), (.getfield 49, 3, 4, 12, 0)] (pc1 := 134) (lo1 := [some (.ref 26), some (.ref 355)]) (st1 := [.ref 37, .ref 366]) (μ1 := μ10) (vc := True) rfl (by decide +kernel) rfl trivial ?_
  refine pm_callSN2 mi_X9_copyRow (ix := 55) (host := RX9) (kc2 := 0) (ks2 := 0) (As := [.ref 366, .ref 37]) (rest := []) (c_X9_copyRow (a := 366) (b := 37) (n := 30) μ10 rfl rfl (by decide)) cal_X9_copyRow (by decide +kernel) (by decide +kernel) (by decide +kernel) rfl rfl (Nat.le_of_ble_eq_true rfl) (by decide) (by decide) ?_
  rintro _ μ11 ⟨rfl, e11⟩
  show pm_V _ _ _ _ 137 _ [] _
  refine pm_bl [(.aload_n 1, 1, 1, 0, 0), (.getfield 52, 3, 4, 13, 0), (.aload_n 0, 1, 0, 0, 0), (.getfield 52, 3, 4, 13, 0)] (pc1 := 145) (lo1 := [some (.ref 26), some (.ref 355)]) (st1 := [.ref 38, .ref 367]) (μ1 := μ11) (vc := True) rfl (by decide +kernel) rfl trivial ?_
  refine pm_callSN2 mi_X9_copyRow (ix := 55) (host := RX9) (kc2 := 0) (ks2 := 0) (As := [.ref 367, .ref 38]) (rest := []) (c_X9_copyRow (a := 367) (b := 38) (n := 30) μ11 rfl rfl (by decide)) cal_X9_copyRow (by decide +kernel) (by decide +kernel) (by decide +kernel) rfl rfl (Nat.le_of_ble_eq_true rfl) (by decide) (by decide) ?_
  rintro _ μ12 ⟨rfl, e12⟩
  show pm_V _ _ _ _ 148 _ [] _
  exact pm_vret rfl (by decide) (by decide) (by decide +kernel) (by
    subst e1; subst e2; subst e3; subst e4; subst e5; subst e6; subst e7; subst e8; subst e9; subst e10; subst e11; subst e12
    refine ⟨rfl, rfl, fun i hi => by rw [pm_row_off (by omega), pm_row_off (by omega), pm_row_off (by omega), pm_row_off (by omega), pm_row_off (by omega), pm_row_off (by omega), pm_row_off (by omega), pm_row_off (by omega), pm_row_off (by omega), pm_row_off (by omega), pm_row_off (by omega), pm_row_off (by omega), pm_set_off (by omega), pm_set_off (by omega)], lr_Rl.mv (b := 330) (b2 := 1) hX hn (by simp only [Nat.reduceAdd]; rw [pm_row_off (by decide), pm_row_off (by decide), pm_row_off (by decide), pm_row_off (by decide), pm_row_off (by decide), pm_row_off (by decide), pm_row_off (by decide), pm_row_off (by decide), pm_row_off (by decide), pm_row_off (by decide), pm_row_off (by decide), pm_row_off (by decide), pm_set_miss (Or.inr (by decide)), pm_set_hit]) (by simp only [Nat.reduceAdd]; rw [pm_row_off (by decide), pm_row_off (by decide), pm_row_off (by decide), pm_row_off (by decide), pm_row_off (by decide), pm_row_off (by decide), pm_row_off (by decide), pm_row_off (by decide), pm_row_off (by decide), pm_row_off (by decide), pm_row_off (by decide), pm_row_off (by decide), pm_set_hit]) (fun k i h1 h2 h3 => ?_) (fun _ _ _ => rfl) rfl⟩
    rcases (show k = 26 ∨ k = 27 ∨ k = 28 ∨ k = 29 ∨ k = 30 ∨ k = 31 ∨ k = 32 ∨ k = 33 ∨ k = 34 ∨ k = 35 ∨ k = 36 ∨ k = 37 by omega) with rfl | rfl | rfl | rfl | rfl | rfl | rfl | rfl | rfl | rfl | rfl | rfl
    · simp only [Nat.reduceAdd]; rw [pm_row_off (by decide), pm_row_off (by decide), pm_row_off (by decide), pm_row_off (by decide), pm_row_off (by decide), pm_row_off (by decide), pm_row_off (by decide), pm_row_off (by decide), pm_row_off (by decide), pm_row_off (by decide), pm_row_off (by decide), pm_row_at]; unfold va_cpy; rw [if_pos (by omega), pm_set_off (by decide), pm_set_off (by decide), show 0 + (i - 0) = i from by omega]
    · simp only [Nat.reduceAdd]; rw [pm_row_off (by decide), pm_row_off (by decide), pm_row_off (by decide), pm_row_off (by decide), pm_row_off (by decide), pm_row_off (by decide), pm_row_off (by decide), pm_row_off (by decide), pm_row_off (by decide), pm_row_off (by decide), pm_row_at]; unfold va_cpy; rw [if_pos (by omega), pm_row_off (by decide), pm_set_off (by decide), pm_set_off (by decide), show 0 + (i - 0) = i from by omega]
    · simp only [Nat.reduceAdd]; rw [pm_row_off (by decide), pm_row_off (by decide), pm_row_off (by decide), pm_row_off (by decide), pm_row_off (by decide), pm_row_off (by decide), pm_row_off (by decide), pm_row_off (by decide), pm_row_off (by decide), pm_row_at]; unfold va_cpy; rw [if_pos (by omega), pm_row_off (by decide), pm_row_off (by decide), pm_set_off (by decide), pm_set_off (by decide), show 0 + (i - 0) = i from by omega]
    · simp only [Nat.reduceAdd]; rw [pm_row_off (by decide), pm_row_off (by decide), pm_row_off (by decide), pm_row_off (by decide), pm_row_off (by decide), pm_row_off (by decide), pm_row_off (by decide), pm_row_off (by decide), pm_row_at]; unfold va_cpy; rw [if_pos (by omega), pm_row_off (by decide), pm_row_off (by decide), pm_row_off (by decide), pm_set_off (by decide), pm_set_off (by decide), show 0 + (i - 0) = i from by omega]
    · simp only [Nat.reduceAdd]; rw [pm_row_off (by decide), pm_row_off (by decide), pm_row_off (by decide), pm_row_off (by decide), pm_row_off (by decide), pm_row_off (by decide), pm_row_off (by decide), pm_row_at]; unfold va_cpy; rw [if_pos (by omega), pm_row_off (by decide), pm_row_off (by decide), pm_row_off (by decide), pm_row_off (by decide), pm_set_off (by decide), pm_set_off (by decide), show 0 + (i - 0) = i from by omega]
    · simp only [Nat.reduceAdd]; rw [pm_row_off (by decide), pm_row_off (by decide), pm_row_off (by decide), pm_row_off (by decide), pm_row_off (by decide), pm_row_off (by decide), pm_row_at]; unfold va_cpy; rw [if_pos (by omega), pm_row_off (by decide), pm_row_off (by decide), pm_row_off (by decide), pm_row_off (by decide), pm_row_off (by decide), pm_set_off (by decide), pm_set_off (by decide), show 0 + (i - 0) = i from by omega]
    · simp only [Nat.reduceAdd]; rw [pm_row_off (by decide), pm_row_off (by decide), pm_row_off (by decide), pm_row_off (by decide), pm_row_off (by decide), pm_row_at]; unfold va_cpy; rw [if_pos (by omega), pm_row_off (by decide), pm_row_off (by decide), pm_row_off (by decide), pm_row_off (by decide), pm_row_off (by decide), pm_row_off (by decide), pm_set_off (by decide), pm_set_off (by decide), show 0 + (i - 0) = i from by omega]
    · simp only [Nat.reduceAdd]; rw [pm_row_off (by decide), pm_row_off (by decide), pm_row_off (by decide), pm_row_off (by decide), pm_row_at]; unfold va_cpy; rw [if_pos (by omega), pm_row_off (by decide), pm_row_off (by decide), pm_row_off (by decide), pm_row_off (by decide), pm_row_off (by decide), pm_row_off (by decide), pm_row_off (by decide), pm_set_off (by decide), pm_set_off (by decide), show 0 + (i - 0) = i from by omega]
    · simp only [Nat.reduceAdd]; rw [pm_row_off (by decide), pm_row_off (by decide), pm_row_off (by decide), pm_row_at]; unfold va_cpy; rw [if_pos (by omega), pm_row_off (by decide), pm_row_off (by decide), pm_row_off (by decide), pm_row_off (by decide), pm_row_off (by decide), pm_row_off (by decide), pm_row_off (by decide), pm_row_off (by decide), pm_set_off (by decide), pm_set_off (by decide), show 0 + (i - 0) = i from by omega]
    · simp only [Nat.reduceAdd]; rw [pm_row_off (by decide), pm_row_off (by decide), pm_row_at]; unfold va_cpy; rw [if_pos (by omega), pm_row_off (by decide), pm_row_off (by decide), pm_row_off (by decide), pm_row_off (by decide), pm_row_off (by decide), pm_row_off (by decide), pm_row_off (by decide), pm_row_off (by decide), pm_row_off (by decide), pm_set_off (by decide), pm_set_off (by decide), show 0 + (i - 0) = i from by omega]
    · simp only [Nat.reduceAdd]; rw [pm_row_off (by decide), pm_row_at]; unfold va_cpy; rw [if_pos (by omega), pm_row_off (by decide), pm_row_off (by decide), pm_row_off (by decide), pm_row_off (by decide), pm_row_off (by decide), pm_row_off (by decide), pm_row_off (by decide), pm_row_off (by decide), pm_row_off (by decide), pm_row_off (by decide), pm_set_off (by decide), pm_set_off (by decide), show 0 + (i - 0) = i from by omega]
    · simp only [Nat.reduceAdd]; rw [pm_row_at]; unfold va_cpy; rw [if_pos (by omega), pm_row_off (by decide), pm_row_off (by decide), pm_row_off (by decide), pm_row_off (by decide), pm_row_off (by decide), pm_row_off (by decide), pm_row_off (by decide), pm_row_off (by decide), pm_row_off (by decide), pm_row_off (by decide), pm_row_off (by decide), pm_set_off (by decide), pm_set_off (by decide), show 0 + (i - 0) = i from by omega])
set_option maxHeartbeats 4000000 in
set_option maxRecDepth 100000 in
theorem c_X5_copyFrom_1_330 {g : Nat → Int32} (μ : pm_Mm) (hR : lr_Rel μ.1 330 g) (hB : lr_B g) : pm_CT mi_X5_copyFrom [.ref 1, .ref 330] μ (fun v μ2 => v = none ∧ μ2.2 = μ.2 ∧ (∀ i, (i < 1 ∨ 39 < i) → μ2.1 i = μ.1 i) ∧ lr_Rel μ2.1 1 g) pm_NX := by
  refine pm_CT_of (lo := [some (.ref 1), some (.ref 330)]) (by decide +kernel) rfl rfl (by intro v hv; simp at hv; rcases hv with rfl | rfl <;> rfl) (Nat.le_of_ble_eq_true rfl) rfl ?_
  obtain ⟨hm1, hm3, hm2, hm4, hm5, hm6⟩ := id hB
  refine pm_bl [(.aload_n 0, 1, 0, 0, 0), (.getfield 12, 3, 5, 0, 0), (.aload_n 1, 1, 1, 0, 0), (.getfield 12, 3, 5, 0, 0)] (pc1 := 8) (lo1 := [some (.ref 1), some (.ref 330)]) (st1 := [.ref 331, .ref 2]) (μ1 := μ) (vc := True) rfl (by decide +kernel) rfl trivial ?_
  refine pm_callV2 mi_X3_copyFrom (ix := 61) (b := 2) (ci := 3) (kc2 := 0) (ks2 := 0) (As := [.ref 331]) (rest := []) (c_X3_copyFrom_1_330 μ hR.2.1 hm1) cal_X3_copyFrom lk5_61 (by decide +kernel) rfl (by decide +kernel) rfl rfl rfl rfl (Nat.le_of_ble_eq_true rfl) (by decide) (by decide) (fun _ _ h9 => h9.elim) ?_
  rintro _ μ1 ⟨rfl, x1, f1, r1⟩
  show pm_V _ _ _ _ 11 _ [] _
  refine pm_bl [(.aload_n 0, 1, 0, 0, 0), (.getfield 21, 3, 5, 1, 0), (.aload_n 1, 1, 1, 0, 0), (.getfield 21, 3, 5, 1, 0)] (pc1 := 19) (lo1 := [some (.ref 1), some (.ref 330)]) (st1 := [.ref 334, .ref 5]) (μ1 := μ1) (vc := True) rfl (by decide +kernel) rfl trivial ?_
  refine pm_callV2 mi_X6_copyFrom (ix := 65) (b := 5) (ci := 6) (kc2 := 0) (ks2 := 0) (As := [.ref 334]) (rest := []) (c_X6_copyFrom_1_330 μ1 (lr_Rp.st (b := 330) hR.2.2.1 hm3 (fun k h1 h2 => by rw [f1 _ (by omega)]) (fun _ _ _ => rfl)) hm3) cal_X6_copyFrom lk5_65 (by decide +kernel) rfl (by decide +kernel) rfl rfl rfl rfl (Nat.le_of_ble_eq_true rfl) (by decide) (by decide) (fun _ _ h9 => h9.elim) ?_
  rintro _ μ2 ⟨rfl, x2, f2, r2⟩
  show pm_V _ _ _ _ 22 _ [] _
  refine pm_bl [(.aload_n 0, 1, 0, 0, 0), (.getfield 28, 3, 5, 2, 0), (.aload_n 1, 1, 1, 0, 0), (.getfield 28, 3, 5, 2, 0)] (pc1 := 30) (lo1 := [some (.ref 1), some (.ref 330)]) (st1 := [.ref 339, .ref 10]) (μ1 := μ2) (vc := True) rfl (by decide +kernel) rfl trivial ?_
  refine pm_callV2 mi_X8_copyFrom (ix := 68) (b := 10) (ci := 8) (kc2 := 0) (ks2 := 0) (As := [.ref 339]) (rest := []) (c_X8_copyFrom_1_330 μ2 (lr_Rw.st (b := 330) hR.2.2.2.1 hm2 (fun k h1 h2 => by rw [f2 _ (by omega), f1 _ (by omega)]) (fun _ _ _ => rfl)) hm2) cal_X8_copyFrom lk5_68 (by decide +kernel) rfl (by decide +kernel) rfl rfl rfl rfl (Nat.le_of_ble_eq_true rfl) (by decide) (by decide) (fun _ _ h9 => h9.elim) ?_
  rintro _ μ3 ⟨rfl, x3, f3, r3⟩
  show pm_V _ _ _ _ 33 _ [] _
  refine pm_bl [(.aload_n 0, 1, 0, 0, 0), (.getfield 35, 3, 5, 3, 0), (.aload_n 1, 1, 1, 0, 0), (.getfield 35, 3, 5, 3, 0)] (pc1 := 41) (lo1 := [some (.ref 1), some (.ref 330)]) (st1 := [.ref 345, .ref 16]) (μ1 := μ3) (vc := True) rfl (by decide +kernel) rfl trivial ?_
  refine pm_callV2 mi_X7_copyFrom (ix := 71) (b := 16) (ci := 7) (kc2 := 0) (ks2 := 0) (As := [.ref 345]) (rest := []) (c_X7_copyFrom_1_330 μ3 (lr_Rr.st (b := 330) hR.2.2.2.2.1 hm4 (fun k h1 h2 => by rw [f3 _ (by omega), f2 _ (by omega), f1 _ (by omega)]) (fun _ _ _ => rfl)) hm4) cal_X7_copyFrom lk5_71 (by decide +kernel) rfl (by decide +kernel) rfl rfl rfl rfl (Nat.le_of_ble_eq_true rfl) (by decide) (by decide) (fun _ _ h9 => h9.elim) ?_
  rintro _ μ4 ⟨rfl, x4, f4, r4⟩
  show pm_V _ _ _ _ 44 _ [] _
  refine pm_bl [(.aload_n 0, 1, 0, 0, 0), (.getfield 42, 3, 5, 4, 0), (.aload_n 1, 1, 1, 0, 0), (.getfield 42, 3, 5, 4, 0)] (pc1 := 52) (lo1 := [some (.ref 1), some (.ref 330)]) (st1 := [.ref 351, .ref 22]) (μ1 := μ4) (vc := True) rfl (by decide +kernel) rfl trivial ?_
  refine pm_callV2 mi_X0_copyFrom (ix := 74) (b := 22) (ci := 0) (kc2 := 0) (ks2 := 0) (As := [.ref 351]) (rest := []) (c_X0_copyFrom_1_330 μ4 (lr_Ra.st (b := 330) hR.2.2.2.2.2.1 hm5 (fun k h1 h2 => by rw [f4 _ (by omega), f3 _ (by omega), f2 _ (by omega), f1 _ (by omega)]) (fun _ _ _ => rfl)) hm5) cal_X0_copyFrom lk5_74 (by decide +kernel) rfl (by decide +kernel) rfl rfl rfl rfl (Nat.le_of_ble_eq_true rfl) (by decide) (by decide) (fun _ _ h9 => h9.elim) ?_
  rintro _ μ5 ⟨rfl, x5, f5, r5⟩
  show pm_V _ _ _ _ 55 _ [] _
  refine pm_bl [(.aload_n 0, 1, 0, 0, 0), (.getfield 49, 3, 5, 5, 0), (.aload_n 1, 1, 1, 0, 0), (.getfield 49, 3, 5, 5, 0)] (pc1 := 63) (lo1 := [some (.ref 1), some (.ref 330)]) (st1 := [.ref 355, .ref 26]) (μ1 := μ5) (vc := True) rfl (by decide +kernel) rfl trivial ?_
  refine pm_callV2 mi_X4_copyFrom (ix := 77) (b := 26) (ci := 4) (kc2 := 0) (ks2 := 0) (As := [.ref 355]) (rest := []) (c_X4_copyFrom_1_330 μ5 (lr_Rl.st (b := 330) hR.2.2.2.2.2.2 hm6 (fun k h1 h2 => by rw [f5 _ (by omega), f4 _ (by omega), f3 _ (by omega), f2 _ (by omega), f1 _ (by omega)]) rfl (fun _ _ _ => rfl)) hm6) cal_X4_copyFrom lk5_77 (by decide +kernel) rfl (by decide +kernel) rfl rfl rfl rfl (Nat.le_of_ble_eq_true rfl) (by decide) (by decide) (fun _ _ h9 => h9.elim) ?_
  rintro _ μ6 ⟨rfl, x6, f6, r6⟩
  show pm_V _ _ _ _ 66 _ [] _
  refine pm_bl [(.aload_n 0, 1, 0, 0, 0), (.aload_n 1, 1, 1, 0, 0), (.getfield 53, 3, 5, 6, 0), (.putfield 53, 3, 5, 6, 0)] (pc1 := 74) (lo1 := [some (.ref 1), some (.ref 330)]) (st1 := []) (μ1 := pm_set μ6 1 6 (μ6.1 330 6)) (vc := True) rfl (by decide +kernel) rfl trivial ?_
  exact pm_vret rfl (by decide) (by decide) (by decide +kernel) (⟨rfl, (x6.trans (x5.trans (x4.trans (x3.trans (x2.trans x1))))), fun i hi => by rw [pm_set_off (by omega), f6 _ (by omega), f5 _ (by omega), f4 _ (by omega), f3 _ (by omega), f2 _ (by omega), f1 _ (by omega)], by rw [pm_set_hit, f6 _ (by omega), f5 _ (by omega), f4 _ (by omega), f3 _ (by omega), f2 _ (by omega), f1 _ (by omega)]; exact hR.1, lr_Rh.st (b := 1) r1 hm1 (fun k h1 h2 => by rw [pm_set_off (by omega), f6 _ (by omega), f5 _ (by omega), f4 _ (by omega), f3 _ (by omega), f2 _ (by omega)]) (fun _ _ _ => rfl), lr_Rp.st (b := 1) r2 hm3 (fun k h1 h2 => by rw [pm_set_off (by omega), f6 _ (by omega), f5 _ (by omega), f4 _ (by omega), f3 _ (by omega)]) (fun _ _ _ => rfl), lr_Rw.st (b := 1) r3 hm2 (fun k h1 h2 => by rw [pm_set_off (by omega), f6 _ (by omega), f5 _ (by omega), f4 _ (by omega)]) (fun _ _ _ => rfl), lr_Rr.st (b := 1) r4 hm4 (fun k h1 h2 => by rw [pm_set_off (by omega), f6 _ (by omega), f5 _ (by omega)]) (fun _ _ _ => rfl), lr_Ra.st (b := 1) r5 hm5 (fun k h1 h2 => by rw [pm_set_off (by omega), f6 _ (by omega)]) (fun _ _ _ => rfl), lr_Rl.st (b := 1) r6 hm6 (fun k h1 h2 => by rw [pm_set_off (by omega)]) rfl (fun _ _ _ => rfl)⟩)
set_option maxHeartbeats 4000000 in
set_option maxRecDepth 100000 in
theorem c_X3_copyFrom_1_369 {g : Nat → Int32} (μ : pm_Mm) (hX : lr_Rh μ.1 369 g) (hn : lr_n g 2 ≤ 16) : pm_CT mi_X3_copyFrom [.ref 2, .ref 370] μ (fun v μ2 => v = none ∧ μ2.2 = μ.2 ∧ (∀ i, (i < 2 ∨ 4 < i) → μ2.1 i = μ.1 i) ∧ lr_Rh μ2.1 1 g) pm_NX := by
  refine pm_CT_of (lo := [some (.ref 2), some (.ref 370)]) (by decide +kernel) rfl rfl (by intro v hv; simp at hv; rcases hv with rfl | rfl <;> rfl) (Nat.le_of_ble_eq_true rfl) rfl ?_
  refine pm_bl [(.aload_n 0, 1, 0, 0, 0), (.aload_n 1, 1, 1, 0, 0), (.getfield 9, 3, 3, 0, 0), (.putfield 9, 3, 3, 0, 0), (.aload_n 1, 1, 1, 0, 0), (.getfield 15, 3, 3, 1, 0), (.aload_n 0, 1, 0, 0, 0), (.getfield 15, 3, 3, 1, 0)] (pc1 := 16) (lo1 := [some (.ref 2), some (.ref 370)]) (st1 := [.ref 3, .ref 371]) (μ1 := pm_set μ 2 0 (μ.1 370 0)) (vc := True) rfl (by decide +kernel) rfl trivial ?_
  refine pm_callSN2 mi_X9_copyRow (ix := 22) (host := RX9) (kc2 := 0) (ks2 := 0) (As := [.ref 371, .ref 3]) (rest := []) (c_X9_copyRow (a := 371) (b := 3) (n := 16) (pm_set μ 2 0 (μ.1 370 0)) rfl rfl (by decide)) cal_X9_copyRow (by decide +kernel) (by decide +kernel) (by decide +kernel) rfl rfl (Nat.le_of_ble_eq_true rfl) (by decide) (by decide) ?_
  rintro _ μ1 ⟨rfl, e1⟩
  show pm_V _ _ _ _ 19 _ [] _
  refine pm_bl [(.aload_n 1, 1, 1, 0, 0), (.getfield 19, 3, 3, 2, 0), (.aload_n 0, 1, 0, 0, 0), (.getfield 19, 3, 3, 2, 0)] (pc1 := 27) (lo1 := [some (.ref 2), some (.ref 370)]) (st1 := [.ref 4, .ref 372]) (μ1 := μ1) (vc := True) rfl (by decide +kernel) rfl trivial ?_
  refine pm_callSN2 mi_X9_copyRow (ix := 22) (host := RX9) (kc2 := 0) (ks2 := 0) (As := [.ref 372, .ref 4]) (rest := []) (c_X9_copyRow (a := 372) (b := 4) (n := 16) μ1 rfl rfl (by decide)) cal_X9_copyRow (by decide +kernel) (by decide +kernel) (by decide +kernel) rfl rfl (Nat.le_of_ble_eq_true rfl) (by decide) (by decide) ?_
  rintro _ μ2 ⟨rfl, e2⟩
  show pm_V _ _ _ _ 30 _ [] _
  exact pm_vret rfl (by decide) (by decide) (by decide +kernel) (by
    subst e1; subst e2
    refine ⟨rfl, rfl, fun i hi => by rw [pm_row_off (by omega), pm_row_off (by omega), pm_set_off (by omega)], lr_Rh.mv (b := 369) (b2 := 1) hX hn (by simp only [Nat.reduceAdd]; rw [pm_row_off (by decide), pm_row_off (by decide), pm_set_hit]) (fun k i h1 h2 h3 => ?_) (fun _ _ _ => rfl)⟩
    rcases (show k = 2 ∨ k = 3 by omega) with rfl | rfl
    · simp only [Nat.reduceAdd]; rw [pm_row_off (by decide), pm_row_at]; unfold va_cpy; rw [if_pos (by omega), pm_set_off (by decide), show 0 + (i - 0) = i from by omega]
    · simp only [Nat.reduceAdd]; rw [pm_row_at]; unfold va_cpy; rw [if_pos (by omega), pm_row_off (by decide), pm_set_off (by decide), show 0 + (i - 0) = i from by omega])
set_option maxHeartbeats 4000000 in
set_option maxRecDepth 100000 in
theorem c_X6_copyFrom_1_369 {g : Nat → Int32} (μ : pm_Mm) (hX : lr_Rp μ.1 369 g) (hn : lr_n g 35 ≤ 20) : pm_CT mi_X6_copyFrom [.ref 5, .ref 373] μ (fun v μ2 => v = none ∧ μ2.2 = μ.2 ∧ (∀ i, (i < 5 ∨ 9 < i) → μ2.1 i = μ.1 i) ∧ lr_Rp μ2.1 1 g) pm_NX := by
  refine pm_CT_of (lo := [some (.ref 5), some (.ref 373)]) (by decide +kernel) rfl rfl (by intro v hv; simp at hv; rcases hv with rfl | rfl <;> rfl) (Nat.le_of_ble_eq_true rfl) rfl ?_
  refine pm_bl [(.aload_n 0, 1, 0, 0, 0), (.aload_n 1, 1, 1, 0, 0), (.getfield 9, 3, 6, 0, 0), (.putfield 9, 3, 6, 0, 0), (.aload_n 1, 1, 1, 0, 0), (.getfield 15, 3, 6, 1, 0), (.aload_n 0, 1, 0, 0, 0), (.getfield 15, 3, 6, 1, 0)] (pc1 := 16) (lo1 := [some (.ref 5), some (.ref 373)]) (st1 := [.ref 6, .ref 374]) (μ1 := pm_set μ 5 0 (μ.1 373 0)) (vc := True) rfl (by decide +kernel) rfl trivial ?_
  refine pm_callSN2 mi_X9_copyRow (ix := 28) (host := RX9) (kc2 := 0) (ks2 := 0) (As := [.ref 374, .ref 6]) (rest := []) (c_X9_copyRow (a := 374) (b := 6) (n := 20) (pm_set μ 5 0 (μ.1 373 0)) rfl rfl (by decide)) cal_X9_copyRow (by decide +kernel) (by decide +kernel) (by decide +kernel) rfl rfl (Nat.le_of_ble_eq_true rfl) (by decide) (by decide) ?_
  rintro _ μ1 ⟨rfl, e1⟩
  show pm_V _ _ _ _ 19 _ [] _
  refine pm_bl [(.aload_n 1, 1, 1, 0, 0), (.getfield 19, 3, 6, 2, 0), (.aload_n 0, 1, 0, 0, 0), (.getfield 19, 3, 6, 2, 0)] (pc1 := 27) (lo1 := [some (.ref 5), some (.ref 373)]) (st1 := [.ref 7, .ref 375]) (μ1 := μ1) (vc := True) rfl (by decide +kernel) rfl trivial ?_
  refine pm_callSN2 mi_X9_copyRow (ix := 28) (host := RX9) (kc2 := 0) (ks2 := 0) (As := [.ref 375, .ref 7]) (rest := []) (c_X9_copyRow (a := 375) (b := 7) (n := 20) μ1 rfl rfl (by decide)) cal_X9_copyRow (by decide +kernel) (by decide +kernel) (by decide +kernel) rfl rfl (Nat.le_of_ble_eq_true rfl) (by decide) (by decide) ?_
  rintro _ μ2 ⟨rfl, e2⟩
  show pm_V _ _ _ _ 30 _ [] _
  refine pm_bl [(.aload_n 1, 1, 1, 0, 0), (.getfield 22, 3, 6, 3, 0), (.aload_n 0, 1, 0, 0, 0), (.getfield 22, 3, 6, 3, 0)] (pc1 := 38) (lo1 := [some (.ref 5), some (.ref 373)]) (st1 := [.ref 8, .ref 376]) (μ1 := μ2) (vc := True) rfl (by decide +kernel) rfl trivial ?_
  refine pm_callSN2 mi_X9_copyRow (ix := 28) (host := RX9) (kc2 := 0) (ks2 := 0) (As := [.ref 376, .ref 8]) (rest := []) (c_X9_copyRow (a := 376) (b := 8) (n := 20) μ2 rfl rfl (by decide)) cal_X9_copyRow (by decide +kernel) (by decide +kernel) (by decide +kernel) rfl rfl (Nat.le_of_ble_eq_true rfl) (by decide) (by decide) ?_
  rintro _ μ3 ⟨rfl, e3⟩
  show pm_V _ _ _ _ 41 _ [] _
  refine pm_bl [(.aload_n 1, 1, 1, 0, 0), (.getfield 25, 3, 6, 4, 0), (.aload_n 0, 1, 0, 0, 0), (.getfield 25, 3, 6, 4, 0)] (pc1 := 49) (lo1 := [some (.ref 5), some (.ref 373)]) (st1 := [.ref 9, .ref 377]) (μ1 := μ3) (vc := True) rfl (by decide +kernel) rfl trivial ?_
  refine pm_callSN2 mi_X9_copyRow (ix := 28) (host := RX9) (kc2 := 0) (ks2 := 0) (As := [.ref 377, .ref 9]) (rest := []) (c_X9_copyRow (a := 377) (b := 9) (n := 20) μ3 rfl rfl (by decide)) cal_X9_copyRow (by decide +kernel) (by decide +kernel) (by decide +kernel) rfl rfl (Nat.le_of_ble_eq_true rfl) (by decide) (by decide) ?_
  rintro _ μ4 ⟨rfl, e4⟩
  show pm_V _ _ _ _ 52 _ [] _
  exact pm_vret rfl (by decide) (by decide) (by decide +kernel) (by
    subst e1; subst e2; subst e3; subst e4
    refine ⟨rfl, rfl, fun i hi => by rw [pm_row_off (by omega), pm_row_off (by omega), pm_row_off (by omega), pm_row_off (by omega), pm_set_off (by omega)], lr_Rp.mv (b := 369) (b2 := 1) hX hn (by simp only [Nat.reduceAdd]; rw [pm_row_off (by decide), pm_row_off (by decide), pm_row_off (by decide), pm_row_off (by decide), pm_set_hit]) (fun k i h1 h2 h3 => ?_) (fun _ _ _ => rfl)⟩
    rcases (show k = 5 ∨ k = 6 ∨ k = 7 ∨ k = 8 by omega) with rfl | rfl | rfl | rfl
    · simp only [Nat.reduceAdd]; rw [pm_row_off (by decide), pm_row_off (by decide), pm_row_off (by decide), pm_row_at]; unfold va_cpy; rw [if_pos (by omega), pm_set_off (by decide), show 0 + (i - 0) = i from by omega]
    · simp only [Nat.reduceAdd]; rw [pm_row_off (by decide), pm_row_off (by decide), pm_row_at]; unfold va_cpy; rw [if_pos (by omega), pm_row_off (by decide), pm_set_off (by decide), show 0 + (i - 0) = i from by omega]
    · simp only [Nat.reduceAdd]; rw [pm_row_off (by decide), pm_row_at]; unfold va_cpy; rw [if_pos (by omega), pm_row_off (by decide), pm_row_off (by decide), pm_set_off (by decide), show 0 + (i - 0) = i from by omega]
    · simp only [Nat.reduceAdd]; rw [pm_row_at]; unfold va_cpy; rw [if_pos (by omega), pm_row_off (by decide), pm_row_off (by decide), pm_row_off (by decide), pm_set_off (by decide), show 0 + (i - 0) = i from by omega])
set_option maxHeartbeats 4000000 in
set_option maxRecDepth 100000 in
theorem c_X8_copyFrom_1_369 {g : Nat → Int32} (μ : pm_Mm) (hX : lr_Rw μ.1 369 g) (hn : lr_n g 116 ≤ 10) : pm_CT mi_X8_copyFrom [.ref 10, .ref 378] μ (fun v μ2 => v = none ∧ μ2.2 = μ.2 ∧ (∀ i, (i < 10 ∨ 15 < i) → μ2.1 i = μ.1 i) ∧ lr_Rw μ2.1 1 g) pm_NX := by
  refine pm_CT_of (lo := [some (.ref 10), some (.ref 378)]) (by decide +kernel) rfl rfl (by intro v hv; simp at hv; rcases hv with rfl | rfl <;> rfl) (Nat.le_of_ble_eq_true rfl) rfl ?_
  refine pm_bl [(.aload_n 0, 1, 0, 0, 0), (.aload_n 1, 1, 1, 0, 0), (.getfield 9, 3, 8, 0, 0), (.putfield 9, 3, 8, 0, 0), (.aload_n 1, 1, 1, 0, 0), (.getfield 15, 3, 8, 1, 0), (.aload_n 0, 1, 0, 0, 0), (.getfield 15, 3, 8, 1, 0)] (pc1 := 16) (lo1 := [some (.ref 10), some (.ref 378)]) (st1 := [.ref 11, .ref 379]) (μ1 := pm_set μ 10 0 (μ.1 378 0)) (vc := True) rfl (by decide +kernel) rfl trivial ?_
  refine pm_callSN2 mi_X9_copyRow (ix := 31) (host := RX9) (kc2 := 0) (ks2 := 0) (As := [.ref 379, .ref 11]) (rest := []) (c_X9_copyRow (a := 379) (b := 11) (n := 10) (pm_set μ 10 0 (μ.1 378 0)) rfl rfl (by decide)) cal_X9_copyRow (by decide +kernel) (by decide +kernel) (by decide +kernel) rfl rfl (Nat.le_of_ble_eq_true rfl) (by decide) (by decide) ?_
  rintro _ μ1 ⟨rfl, e1⟩
  show pm_V _ _ _ _ 19 _ [] _
  refine pm_bl [(.aload_n 1, 1, 1, 0, 0), (.getfield 19, 3, 8, 2, 0), (.aload_n 0, 1, 0, 0, 0), (.getfield 19, 3, 8, 2, 0)] (pc1 := 27) (lo1 := [some (.ref 10), some (.ref 378)]) (st1 := [.ref 12, .ref 380]) (μ1 := μ1) (vc := True) rfl (by decide +kernel) rfl trivial ?_
  refine pm_callSN2 mi_X9_copyRow (ix := 31) (host := RX9) (kc2 := 0) (ks2 := 0) (As := [.ref 380, .ref 12]) (rest := []) (c_X9_copyRow (a := 380) (b := 12) (n := 10) μ1 rfl rfl (by decide)) cal_X9_copyRow (by decide +kernel) (by decide +kernel) (by decide +kernel) rfl rfl (Nat.le_of_ble_eq_true rfl) (by decide) (by decide) ?_
  rintro _ μ2 ⟨rfl, e2⟩
  show pm_V _ _ _ _ 30 _ [] _
  refine pm_bl [(.aload_n 1, 1, 1, 0, 0), (.getfield 22, 3, 8, 3, 0), (.aload_n 0, 1, 0, 0, 0), (.getfield 22, 3, 8, 3, 0)] (pc1 := 38) (lo1 := [some (.ref 10), some (.ref 378)]) (st1 := [.ref 13, .ref 381]) (μ1 := μ2) (vc := True) rfl (by decide +kernel) rfl trivial ?_
  refine pm_callSN2 mi_X9_copyRow (ix := 31) (host := RX9) (kc2 := 0) (ks2 := 0) (As := [.ref 381, .ref 13]) (rest := []) (c_X9_copyRow (a := 381) (b := 13) (n := 10) μ2 rfl rfl (by decide)) cal_X9_copyRow (by decide +kernel) (by decide +kernel) (by decide +kernel) rfl rfl (Nat.le_of_ble_eq_true rfl) (by decide) (by decide) ?_
  rintro _ μ3 ⟨rfl, e3⟩
  show pm_V _ _ _ _ 41 _ [] _
  refine pm_bl [(.aload_n 1, 1, 1, 0, 0), (.getfield 25, 3, 8, 4, 0), (.aload_n 0, 1, 0, 0, 0), (.getfield 25, 3, 8, 4, 0)] (pc1 := 49) (lo1 := [some (.ref 10), some (.ref 378)]) (st1 := [.ref 14, .ref 382]) (μ1 := μ3) (vc := True) rfl (by decide +kernel) rfl trivial ?_
  refine pm_callSN2 mi_X9_copyRow (ix := 31) (host := RX9) (kc2 := 0) (ks2 := 0) (As := [.ref 382, .ref 14]) (rest := []) (c_X9_copyRow (a := 382) (b := 14) (n := 10) μ3 rfl rfl (by decide)) cal_X9_copyRow (by decide +kernel) (by decide +kernel) (by decide +kernel) rfl rfl (Nat.le_of_ble_eq_true rfl) (by decide) (by decide) ?_
  rintro _ μ4 ⟨rfl, e4⟩
  show pm_V _ _ _ _ 52 _ [] _
  refine pm_bl [(.aload_n 1, 1, 1, 0, 0), (.getfield 28, 3, 8, 5, 0), (.aload_n 0, 1, 0, 0, 0), (.getfield 28, 3, 8, 5, 0)] (pc1 := 60) (lo1 := [some (.ref 10), some (.ref 378)]) (st1 := [.ref 15, .ref 383]) (μ1 := μ4) (vc := True) rfl (by decide +kernel) rfl trivial ?_
  refine pm_callSN2 mi_X9_copyRow (ix := 31) (host := RX9) (kc2 := 0) (ks2 := 0) (As := [.ref 383, .ref 15]) (rest := []) (c_X9_copyRow (a := 383) (b := 15) (n := 10) μ4 rfl rfl (by decide)) cal_X9_copyRow (by decide +kernel) (by decide +kernel) (by decide +kernel) rfl rfl (Nat.le_of_ble_eq_true rfl) (by decide) (by decide) ?_
  rintro _ μ5 ⟨rfl, e5⟩
  show pm_V _ _ _ _ 63 _ [] _
  exact pm_vret rfl (by decide) (by decide) (by decide +kernel) (by
    subst e1; subst e2; subst e3; subst e4; subst e5
    refine ⟨rfl, rfl, fun i hi => by rw [pm_row_off (by omega), pm_row_off (by omega), pm_row_off (by omega), pm_row_off (by omega), pm_row_off (by omega), pm_set_off (by omega)], lr_Rw.mv (b := 369) (b2 := 1) hX hn (by simp only [Nat.reduceAdd]; rw [pm_row_off (by decide), pm_row_off (by decide), pm_row_off (by decide), pm_row_off (by decide), pm_row_off (by decide), pm_set_hit]) (fun k i h1 h2 h3 => ?_) (fun _ _ _ => rfl)⟩
    rcases (show k = 10 ∨ k = 11 ∨ k = 12 ∨ k = 13 ∨ k = 14 by omega) with rfl | rfl | rfl | rfl | rfl
    · simp only [Nat.reduceAdd]; rw [pm_row_off (by decide), pm_row_off (by decide), pm_row_off (by decide), pm_row_off (by decide), pm_row_at]; unfold va_cpy; rw [if_pos (by omega), pm_set_off (by decide), show 0 + (i - 0) = i from by omega]
    · simp only [Nat.reduceAdd]; rw [pm_row_off (by decide), pm_row_off (by decide), pm_row_off (by decide), pm_row_at]; unfold va_cpy; rw [if_pos (by omega), pm_row_off (by decide), pm_set_off (by decide), show 0 + (i - 0) = i from by omega]
    · simp only [Nat.reduceAdd]; rw [pm_row_off (by decide), pm_row_off (by decide), pm_row_at]; unfold va_cpy; rw [if_pos (by omega), pm_row_off (by decide), pm_row_off (by decide), pm_set_off (by decide), show 0 + (i - 0) = i from by omega]
    · simp only [Nat.reduceAdd]; rw [pm_row_off (by decide), pm_row_at]; unfold va_cpy; rw [if_pos (by omega), pm_row_off (by decide), pm_row_off (by decide), pm_row_off (by decide), pm_set_off (by decide), show 0 + (i - 0) = i from by omega]
    · simp only [Nat.reduceAdd]; rw [pm_row_at]; unfold va_cpy; rw [if_pos (by omega), pm_row_off (by decide), pm_row_off (by decide), pm_row_off (by decide), pm_row_off (by decide), pm_set_off (by decide), show 0 + (i - 0) = i from by omega])
set_option maxHeartbeats 4000000 in
set_option maxRecDepth 100000 in
theorem c_X7_copyFrom_1_369 {g : Nat → Int32} (μ : pm_Mm) (hX : lr_Rr μ.1 369 g) (hn : lr_n g 167 ≤ 12) : pm_CT mi_X7_copyFrom [.ref 16, .ref 384] μ (fun v μ2 => v = none ∧ μ2.2 = μ.2 ∧ (∀ i, (i < 16 ∨ 21 < i) → μ2.1 i = μ.1 i) ∧ lr_Rr μ2.1 1 g) pm_NX := by
  refine pm_CT_of (lo := [some (.ref 16), some (.ref 384)]) (by decide +kernel) rfl rfl (by intro v hv; simp at hv; rcases hv with rfl | rfl <;> rfl) (Nat.le_of_ble_eq_true rfl) rfl ?_
  refine pm_bl [(.aload_n 0, 1, 0, 0, 0), (.aload_n 1, 1, 1, 0, 0), (.getfield 9, 3, 7, 0, 0), (.putfield 9, 3, 7, 0, 0), (.aload_n 1, 1, 1, 0, 0), (.getfield 15, 3, 7, 1, 0), (.aload_n 0, 1, 0, 0, 0), (.getfield 15, 3, 7, 1, 0)] (pc1 := 16) (lo1 := [some (.ref 16), some (.ref 384)]) (st1 := [.ref 17, .ref 385]) (μ1 := pm_set μ 16 0 (μ.1 384 0)) (vc := True) rfl (by decide +kernel) rfl trivial ?_
  refine pm_callSN2 mi_X9_copyRow (ix := 31) (host := RX9) (kc2 := 0) (ks2 := 0) (As := [.ref 385, .ref 17]) (rest := []) (c_X9_copyRow (a := 385) (b := 17) (n := 12) (pm_set μ 16 0 (μ.1 384 0)) rfl rfl (by decide)) cal_X9_copyRow (by decide +kernel) (by decide +kernel) (by decide +kernel) rfl rfl (Nat.le_of_ble_eq_true rfl) (by decide) (by decide) ?_
  rintro _ μ1 ⟨rfl, e1⟩
  show pm_V _ _ _ _ 19 _ [] _
  refine pm_bl [(.aload_n 1, 1, 1, 0, 0), (.getfield 19, 3, 7, 2, 0), (.aload_n 0, 1, 0, 0, 0), (.getfield 19, 3, 7, 2, 0)] (pc1 := 27) (lo1 := [some (.ref 16), some (.ref 384)]) (st1 := [.ref 18, .ref 386]) (μ1 := μ1) (vc := True) rfl (by decide +kernel) rfl trivial ?_
  refine pm_callSN2 mi_X9_copyRow (ix := 31) (host := RX9) (kc2 := 0) (ks2 := 0) (As := [.ref 386, .ref 18]) (rest := []) (c_X9_copyRow (a := 386) (b := 18) (n := 12) μ1 rfl rfl (by decide)) cal_X9_copyRow (by decide +kernel) (by decide +kernel) (by decide +kernel) rfl rfl (Nat.le_of_ble_eq_true rfl) (by decide) (by decide) ?_
  rintro _ μ2 ⟨rfl, e2⟩
  show pm_V _ _ _ _ 30 _ [] _
  refine pm_bl [(.aload_n 1, 1, 1, 0, 0), (.getfield 22, 3, 7, 3, 0), (.aload_n 0, 1, 0, 0, 0), (.getfield 22, 3, 7, 3, 0)] (pc1 := 38) (lo1 := [some (.ref 16), some (.ref 384)]) (st1 := [.ref 19, .ref 387]) (μ1 := μ2) (vc := True) rfl (by decide +kernel) rfl trivial ?_
  refine pm_callSN2 mi_X9_copyRow (ix := 31) (host := RX9) (kc2 := 0) (ks2 := 0) (As := [.ref 387, .ref 19]) (rest := []) (c_X9_copyRow (a := 387) (b := 19) (n := 12) μ2 rfl rfl (by decide)) cal_X9_copyRow (by decide +kernel) (by decide +kernel) (by decide +kernel) rfl rfl (Nat.le_of_ble_eq_true rfl) (by decide) (by decide) ?_
  rintro _ μ3 ⟨rfl, e3⟩
  show pm_V _ _ _ _ 41 _ [] _
  refine pm_bl [(.aload_n 1, 1, 1, 0, 0), (.getfield 25, 3, 7, 4, 0), (.aload_n 0, 1, 0, 0, 0), (.getfield 25, 3, 7, 4, 0)] (pc1 := 49) (lo1 := [some (.ref 16), some (.ref 384)]) (st1 := [.ref 20, .ref 388]) (μ1 := μ3) (vc := True) rfl (by decide +kernel) rfl trivial ?_
  refine pm_callSN2 mi_X9_copyRow (ix := 31) (host := RX9) (kc2 := 0) (ks2 := 0) (As := [.ref 388, .ref 20]) (rest := []) (c_X9_copyRow (a := 388) (b := 20) (n := 12) μ3 rfl rfl (by decide)) cal_X9_copyRow (by decide +kernel) (by decide +kernel) (by decide +kernel) rfl rfl (Nat.le_of_ble_eq_true rfl) (by decide) (by decide) ?_
  rintro _ μ4 ⟨rfl, e4⟩
  show pm_V _ _ _ _ 52 _ [] _
  refine pm_bl [(.aload_n 1, 1, 1, 0, 0), (.getfield 28, 3, 7, 5, 0), (.aload_n 0, 1, 0, 0, 0), (.getfield 28, 3, 7, 5, 0)] (pc1 := 60) (lo1 := [some (.ref 16), some (.ref 384)]) (st1 := [.ref 21, .ref 389]) (μ1 := μ4) (vc := True) rfl (by decide +kernel) rfl trivial ?_
  refine pm_callSN2 mi_X9_copyRow (ix := 31) (host := RX9) (kc2 := 0) (ks2 := 0) (As := [.ref 389, .ref 21]) (rest := []) (c_X9_copyRow (a := 389) (b := 21) (n := 12) μ4 rfl rfl (by decide)) cal_X9_copyRow (by decide +kernel) (by decide +kernel) (by decide +kernel) rfl rfl (Nat.le_of_ble_eq_true rfl) (by decide) (by decide) ?_
  rintro _ μ5 ⟨rfl, e5⟩
  show pm_V _ _ _ _ 63 _ [] _
  exact pm_vret rfl (by decide) (by decide) (by decide +kernel) (by
    subst e1; subst e2; subst e3; subst e4; subst e5
    refine ⟨rfl, rfl, fun i hi => by rw [pm_row_off (by omega), pm_row_off (by omega), pm_row_off (by omega), pm_row_off (by omega), pm_row_off (by omega), pm_set_off (by omega)], lr_Rr.mv (b := 369) (b2 := 1) hX hn (by simp only [Nat.reduceAdd]; rw [pm_row_off (by decide), pm_row_off (by decide), pm_row_off (by decide), pm_row_off (by decide), pm_row_off (by decide), pm_set_hit]) (fun k i h1 h2 h3 => ?_) (fun _ _ _ => rfl)⟩
    rcases (show k = 16 ∨ k = 17 ∨ k = 18 ∨ k = 19 ∨ k = 20 by omega) with rfl | rfl | rfl | rfl | rfl
    · simp only [Nat.reduceAdd]; rw [pm_row_off (by decide), pm_row_off (by decide), pm_row_off (by decide), pm_row_off (by decide), pm_row_at]; unfold va_cpy; rw [if_pos (by omega), pm_set_off (by decide), show 0 + (i - 0) = i from by omega]
    · simp only [Nat.reduceAdd]; rw [pm_row_off (by decide), pm_row_off (by decide), pm_row_off (by decide), pm_row_at]; unfold va_cpy; rw [if_pos (by omega), pm_row_off (by decide), pm_set_off (by decide), show 0 + (i - 0) = i from by omega]
    · simp only [Nat.reduceAdd]; rw [pm_row_off (by decide), pm_row_off (by decide), pm_row_at]; unfold va_cpy; rw [if_pos (by omega), pm_row_off (by decide), pm_row_off (by decide), pm_set_off (by decide), show 0 + (i - 0) = i from by omega]
    · simp only [Nat.reduceAdd]; rw [pm_row_off (by decide), pm_row_at]; unfold va_cpy; rw [if_pos (by omega), pm_row_off (by decide), pm_row_off (by decide), pm_row_off (by decide), pm_set_off (by decide), show 0 + (i - 0) = i from by omega]
    · simp only [Nat.reduceAdd]; rw [pm_row_at]; unfold va_cpy; rw [if_pos (by omega), pm_row_off (by decide), pm_row_off (by decide), pm_row_off (by decide), pm_row_off (by decide), pm_set_off (by decide), show 0 + (i - 0) = i from by omega])
set_option maxHeartbeats 4000000 in
set_option maxRecDepth 100000 in
theorem c_X0_copyFrom_1_369 {g : Nat → Int32} (μ : pm_Mm) (hX : lr_Ra μ.1 369 g) (hn : lr_n g 228 ≤ 20) : pm_CT mi_X0_copyFrom [.ref 22, .ref 390] μ (fun v μ2 => v = none ∧ μ2.2 = μ.2 ∧ (∀ i, (i < 22 ∨ 25 < i) → μ2.1 i = μ.1 i) ∧ lr_Ra μ2.1 1 g) pm_NX := by
  refine pm_CT_of (lo := [some (.ref 22), some (.ref 390)]) (by decide +kernel) rfl rfl (by intro v hv; simp at hv; rcases hv with rfl | rfl <;> rfl) (Nat.le_of_ble_eq_true rfl) rfl ?_
  refine pm_bl [(.aload_n 0, 1, 0, 0, 0), (.aload_n 1, 1, 1, 0, 0), (.getfield 9, 3, 0, 0, 0), (.putfield 9, 3, 0, 0, 0), (.aload_n 1, 1, 1, 0, 0), (.getfield 15, 3, 0, 1, 0), (.aload_n 0, 1, 0, 0, 0), (.getfield 15, 3, 0, 1, 0)] (pc1 := 16) (lo1 := [some (.ref 22), some (.ref 390)]) (st1 := [.ref 23, .ref 391]) (μ1 := pm_set μ 22 0 (μ.1 390 0)) (vc := True) rfl (by decide +kernel) rfl trivial ?_
  refine pm_callSN2 mi_X9_copyRow (ix := 25) (host := RX9) (kc2 := 0) (ks2 := 0) (As := [.ref 391, .ref 23]) (rest := []) (c_X9_copyRow (a := 391) (b := 23) (n := 20) (pm_set μ 22 0 (μ.1 390 0)) rfl rfl (by decide)) cal_X9_copyRow (by decide +kernel) (by decide +kernel) (by decide +kernel) rfl rfl (Nat.le_of_ble_eq_true rfl) (by decide) (by decide) ?_
  rintro _ μ1 ⟨rfl, e1⟩
  show pm_V _ _ _ _ 19 _ [] _
  refine pm_bl [(.aload_n 1, 1, 1, 0, 0), (.getfield 19, 3, 0, 2, 0), (.aload_n 0, 1, 0, 0, 0), (.getfield 19, 3, 0, 2, 0)] (pc1 := 27) (lo1 := [some (.ref 22), some (.ref 390)]) (st1 := [.ref 24, .ref 392]) (μ1 := μ1) (vc := True) rfl (by decide +kernel) rfl trivial ?_
  refine pm_callSN2 mi_X9_copyRow (ix := 25) (host := RX9) (kc2 := 0) (ks2 := 0) (As := [.ref 392, .ref 24]) (rest := []) (c_X9_copyRow (a := 392) (b := 24) (n := 20) μ1 rfl rfl (by decide)) cal_X9_copyRow (by decide +kernel) (by decide +kernel) (by decide +kernel) rfl rfl (Nat.le_of_ble_eq_true rfl) (by decide) (by decide) ?_
  rintro _ μ2 ⟨rfl, e2⟩
  show pm_V _ _ _ _ 30 _ [] _
  refine pm_bl [(.aload_n 1, 1, 1, 0, 0), (.getfield 22, 3, 0, 3, 0), (.aload_n 0, 1, 0, 0, 0), (.getfield 22, 3, 0, 3, 0)] (pc1 := 38) (lo1 := [some (.ref 22), some (.ref 390)]) (st1 := [.ref 25, .ref 393]) (μ1 := μ2) (vc := True) rfl (by decide +kernel) rfl trivial ?_
  refine pm_callSN2 mi_X9_copyRow (ix := 25) (host := RX9) (kc2 := 0) (ks2 := 0) (As := [.ref 393, .ref 25]) (rest := []) (c_X9_copyRow (a := 393) (b := 25) (n := 20) μ2 rfl rfl (by decide)) cal_X9_copyRow (by decide +kernel) (by decide +kernel) (by decide +kernel) rfl rfl (Nat.le_of_ble_eq_true rfl) (by decide) (by decide) ?_
  rintro _ μ3 ⟨rfl, e3⟩
  show pm_V _ _ _ _ 41 _ [] _
  exact pm_vret rfl (by decide) (by decide) (by decide +kernel) (by
    subst e1; subst e2; subst e3
    refine ⟨rfl, rfl, fun i hi => by rw [pm_row_off (by omega), pm_row_off (by omega), pm_row_off (by omega), pm_set_off (by omega)], lr_Ra.mv (b := 369) (b2 := 1) hX hn (by simp only [Nat.reduceAdd]; rw [pm_row_off (by decide), pm_row_off (by decide), pm_row_off (by decide), pm_set_hit]) (fun k i h1 h2 h3 => ?_) (fun _ _ _ => rfl)⟩
    rcases (show k = 22 ∨ k = 23 ∨ k = 24 by omega) with rfl | rfl | rfl
    · simp only [Nat.reduceAdd]; rw [pm_row_off (by decide), pm_row_off (by decide), pm_row_at]; unfold va_cpy; rw [if_pos (by omega), pm_set_off (by decide), show 0 + (i - 0) = i from by omega]
    · simp only [Nat.reduceAdd]; rw [pm_row_off (by decide), pm_row_at]; unfold va_cpy; rw [if_pos (by omega), pm_row_off (by decide), pm_set_off (by decide), show 0 + (i - 0) = i from by omega]
    · simp only [Nat.reduceAdd]; rw [pm_row_at]; unfold va_cpy; rw [if_pos (by omega), pm_row_off (by decide), pm_row_off (by decide), pm_set_off (by decide), show 0 + (i - 0) = i from by omega])
set_option maxHeartbeats 4000000 in
set_option maxRecDepth 100000 in
theorem c_X4_copyFrom_1_369 {g : Nat → Int32} (μ : pm_Mm) (hX : lr_Rl μ.1 369 g) (hn : lr_n g 289 ≤ 30) : pm_CT mi_X4_copyFrom [.ref 26, .ref 394] μ (fun v μ2 => v = none ∧ μ2.2 = μ.2 ∧ (∀ i, (i < 26 ∨ 38 < i) → μ2.1 i = μ.1 i) ∧ lr_Rl μ2.1 1 g) pm_NX := by
  refine pm_CT_of (lo := [some (.ref 26), some (.ref 394)]) (by decide +kernel) rfl rfl (by intro v hv; simp at hv; rcases hv with rfl | rfl <;> rfl) (Nat.le_of_ble_eq_true rfl) rfl ?_
  refine pm_bl [(.aload_n 0, 1, 0, 0, 0), (.aload_n 1, 1, 1, 0, 0), (.getfield 9, 3, 4, 0, 0), (.putfield 9, 3, 4, 0, 0), (.aload_n 0, 1, 0, 0, 0), (.aload_n 1, 1, 1, 0, 0), (.getfield 15, 3, 4, 1, 0), (.putfield 15, 3, 4, 1, 0), (.aload_n 1, 1, 1, 0, 0), (.getfield 18, 3, 4, 2, 0), (.aload_n 0, 1, 0, 0, 0), (.getfield 18, 3, 4, 2, 0)] (pc1 := 24) (lo1 := [some (.ref 26), some (.ref 394)]) (st1 := [.ref 27, .ref 395]) (μ1 := pm_set (pm_set μ 26 0 (μ.1 394 0)) 26 1 ((pm_set μ 26 0 (μ.1 394 0)).1 394 1)) (vc := True) rfl (by decide +kernel) rfl trivial ?_
  rw [show (pm_set μ 26 0 (μ.1 394 0)).1 394 1 = μ.1 394 1 from by simp [pm_set]]
  refine pm_callSN2 mi_X9_copyRow (ix := 55) (host := RX9) (kc2 := 0) (ks2 := 0) (As := [.ref 395, .ref 27]) (rest := []) (c_X9_copyRow (a := 395) (b := 27) (n := 30) (pm_set (pm_set μ 26 0 (μ.1 394 0)) 26 1 (μ.1 394 1)) rfl rfl (by decide)) cal_X9_copyRow (by decide +kernel) (by decide +kernel) (by decide +kernel) rfl rfl (Nat.le_of_ble_eq_true rfl) (by decide) (by decide) ?_
  rintro _ μ1 ⟨rfl, e1⟩
  show pm_V _ _ _ _ 27 _ [] _
  refine pm_bl [(.aload_n 1, 1, 1, 0, 0), (.getfield 22, 3, 4, 3, 0), (.aload_n 0, 1, 0, 0, 0), (.getfield 22, 3, 4, 3, 0)] (pc1 := 35) (lo1 := [some (.ref 26), some (.ref 394)]) (st1 := [.ref 28, .ref 396]) (μ1 := μ1) (vc := True) rfl (by decide +kernel) rfl trivial ?_
  refine pm_callSN2 mi_X9_copyRow (ix := 55) (host := RX9) (kc2 := 0) (ks2 := 0) (As := [.ref 396, .ref 28]) (rest := []) (c_X9_copyRow (a := 396) (b := 28) (n := 30) μ1 rfl rfl (by decide)) cal_X9_copyRow (by decide +kernel) (by decide +kernel) (by decide +kernel) rfl rfl (Nat.le_of_ble_eq_true rfl) (by decide) (by decide) ?_
  rintro _ μ2 ⟨rfl, e2⟩
  show pm_V _ _ _ _ 38 _ [] _
  refine pm_bl [(.aload_n 1, 1, 1, 0, 0), (.getfield 25, 3, 4, 4, 0), (.aload_n 0, 1, 0, 0, 0), (.getfield 25, 3, 4, 4, 0)] (pc1 := 46) (lo1 := [some (.ref 26), some (.ref 394)]) (st1 := [.ref 29, .ref 397]) (μ1 := μ2) (vc := True) rfl (by decide +kernel) rfl trivial ?_
  refine pm_callSN2 mi_X9_copyRow (ix := 55) (host := RX9) (kc2 := 0) (ks2 := 0) (As := [.ref 397, .ref 29]) (rest := []) (c_X9_copyRow (a := 397) (b := 29) (n := 30) μ2 rfl rfl (by decide)) cal_X9_copyRow (by decide +kernel) (by decide +kernel) (by decide +kernel) rfl rfl (Nat.le_of_ble_eq_true rfl) (by decide) (by decide) ?_
  rintro _ μ3 ⟨rfl, e3⟩
  show pm_V _ _ _ _ 49 _ [] _
  refine pm_bl [(.aload_n 1, 1, 1, 0, 0), (.getfield 28, 3, 4, 5, 0), (.aload_n 0, 1, 0, 0, 0), (.getfield 28, 3, 4, 5, 0)] (pc1 := 57) (lo1 := [some (.ref 26), some (.ref 394)]) (st1 := [.ref 30, .ref 398]) (μ1 := μ3) (vc := True) rfl (by decide +kernel) rfl trivial ?_
  refine pm_callSN2 mi_X9_copyRow (ix := 55) (host := RX9) (kc2 := 0) (ks2 := 0) (As := [.ref 398, .ref 30]) (rest := []) (c_X9_copyRow (a := 398) (b := 30) (n := 30) μ3 rfl rfl (by decide)) cal_X9_copyRow (by decide +kernel) (by decide +kernel) (by decide +kernel) rfl rfl (Nat.le_of_ble_eq_true rfl) (by decide) (by decide) ?_
  rintro _ μ4 ⟨rfl, e4⟩
  show pm_V _ _ _ _ 60 _ [] _
  refine pm_bl [(.aload_n 1, 1, 1, 0, 0), (.getfield 31, 3, 4, 6, 0), (.aload_n 0, 1, 0, 0, 0), (.getfield 31, 3, 4, 6, 0)] (pc1 := 68) (lo1 := [some (.ref 26), some (.ref 394)]) (st1 := [.ref 31, .ref 399]) (μ1 := μ4) (vc := True) rfl (by decide +kernel) rfl trivial ?_
  refine pm_callSN2 mi_X9_copyRow (ix := 55) (host := RX9) (kc2 := 0) (ks2 := 0) (As := [.ref 399, .ref 31]) (rest := []) (c_X9_copyRow (a := 399) (b := 31) (n := 30) μ4 rfl rfl (by decide)) cal_X9_copyRow (by decide +kernel) (by decide +kernel) (by decide +kernel) rfl rfl (Nat.le_of_ble_eq_true rfl) (by decide) (by decide) ?_
  rintro _ μ5 ⟨rfl, e5⟩
  show pm_V _ _ _ _ 71 _ [] _
  refine pm_bl [(.aload_n 1, 1, 1, 0, 0), (.getfield 34, 3, 4, 7, 0), (.aload_n 0, 1, 0, 0, 0), (.getfield 34, 3, 4, 7, 0)] (pc1 := 79) (lo1 := [some (.ref 26), some (.ref 394)]) (st1 := [.ref 32, .ref 400]) (μ1 := μ5) (vc := True) rfl (by decide +kernel) rfl trivial ?_
  refine pm_callSN2 mi_X9_copyRow (ix := 55) (host := RX9) (kc2 := 0) (ks2 := 0) (As := [.ref 400, .ref 32]) (rest := []) (c_X9_copyRow (a := 400) (b := 32) (n := 30) μ5 rfl rfl (by decide)) cal_X9_copyRow (by decide +kernel) (by decide +kernel) (by decide +kernel) rfl rfl (Nat.le_of_ble_eq_true rfl) (by decide) (by decide) ?_
  rintro _ μ6 ⟨rfl, e6⟩
  show pm_V _ _ _ _ 82 _ [] _
  refine pm_bl [(.aload_n 1, 1, 1, 0, 0), (.getfield 37, 3, 4, 8, 0), (.aload_n 0, 1, 0, 0, 0), (.getfield 37, 3, 4, 8, 0)] (pc1 := 90) (lo1 := [some (.ref 26), some (.ref 394)]) (st1 := [.ref 33, .ref 401]) (μ1 := μ6) (vc := True) rfl (by decide +kernel) rfl trivial ?_
  refine pm_callSN2 mi_X9_copyRow (ix := 55) (host := RX9) (kc2 := 0) (ks2 := 0) (As := [.ref 401, .ref 33]) (rest := []) (c_X9_copyRow (a := 401) (b := 33) (n := 30) μ6 rfl rfl (by decide)) cal_X9_copyRow (by decide +kernel) (by decide +kernel) (by decide +kernel) rfl rfl (Nat.le_of_ble_eq_true rfl) (by decide) (by decide) ?_
  rintro _ μ7 ⟨rfl, e7⟩
  show pm_V _ _ _ _ 93 _ [] _
  refine pm_bl [(.aload_n 1, 1, 1, 0, 0), (.getfield 40, 3, 4, 9, 0), (.aload_n 0, 1, 0, 0, 0), (.getfield 40, 3, 4, 9, 0)] (pc1 := 101) (lo1 := [some (.ref 26), some (.ref 394)]) (st1 := [.ref 34, .ref 402]) (μ1 := μ7) (vc := True) rfl (by decide +kernel) rfl trivial ?_
  refine pm_callSN2 mi_X9_copyRow (ix := 55) (host := RX9) (kc2 := 0) (ks2 := 0) (As := [.ref 402, .ref 34]) (rest := []) (c_X9_copyRow (a := 402) (b := 34) (n := 30) μ7 rfl rfl (by decide)) cal_X9_copyRow (by decide +kernel) (by decide +kernel) (by decide +kernel) rfl rfl (Nat.le_of_ble_eq_true rfl) (by decide) (by decide) ?_
  rintro _ μ8 ⟨rfl, e8⟩
  show pm_V _ _ _ _ 104 _ [] _
  refine pm_bl [(.aload_n 1, 1, 1, 0, 0), (.getfield 43, 3, 4, 10, 0), (.aload_n 0, 1, 0, 0, 0), (.getfield 43, 3, 4, 10, 0)] (pc1 := 112) (lo1 := [some (.ref 26), some (.ref 394)]) (st1 := [.ref 35, .ref 403]) (μ1 := μ8) (vc := True) rfl (by decide +kernel) rfl trivial ?_
  refine pm_callSN2 mi_X9_copyRow (ix := 55) (host := RX9) (kc2 := 0) (ks2 := 0) (As := [.ref 403, .ref 35]) (rest := []) (c_X9_copyRow (a := 403) (b := 35) (n := 30) μ8 rfl rfl (by decide)) cal_X9_copyRow (by decide +kernel) (by decide +kernel) (by decide +kernel) rfl rfl (Nat.le_of_ble_eq_true rfl) (by decide) (by decide) ?_
  rintro _ μ9 ⟨rfl, e9⟩
  show pm_V _ _ _ _ 115 _ [] _
  refine pm_bl [(.aload_n 1, 1, 1, 0, 0), (.getfield 46, 3, 4, 11, 0), (.aload_n 0, 1, 0, 0, 0), (.getfield 46, 3, 4, 11, 0)] (pc1 := 123) (lo1 := [some (.ref 26), some (.ref 394)]) (st1 := [.ref 36, .ref 404]) (μ1 := μ9) (vc := True) rfl (by decide +kernel) rfl trivial ?_
  refine pm_callSN2 mi_X9_copyRow (ix := 55) (host := RX9) (kc2 := 0) (ks2 := 0) (As := [.ref 404, .ref 36]) (rest := []) (c_X9_copyRow (a := 404) (b := 36) (n := 30) μ9 rfl rfl (by decide)) cal_X9_copyRow (by decide +kernel) (by decide +kernel) (by decide +kernel) rfl rfl (Nat.le_of_ble_eq_true rfl) (by decide) (by decide) ?_
  rintro _ μ10 ⟨rfl, e10⟩
  show pm_V _ _ _ _ 126 _ [] _
  refine pm_bl [(.aload_n 1, 1, 1, 0, 0), (.getfield 49, 3, 4, 12, 0), (.aload_n 0, 1, 0, 0, 0), (.getfield 49, 3, 4, 12, 0)] (pc1 := 134) (lo1 := [some (.ref 26), some (.ref 394)]) (st1 := [.ref 37, .ref 405]) (μ1 := μ10) (vc := True) rfl (by decide +kernel) rfl trivial ?_
  refine pm_callSN2 mi_X9_copyRow (ix := 55) (host := RX9) (kc2 := 0) (ks2 := 0) (As := [.ref 405, .ref 37]) (rest := []) (c_X9_copyRow (a := 405) (b := 37) (n := 30) μ10 rfl rfl (by decide)) cal_X9_copyRow (by decide +kernel) (by decide +kernel) (by decide +kernel) rfl rfl (Nat.le_of_ble_eq_true rfl) (by decide) (by decide) ?_
  rintro _ μ11 ⟨rfl, e11⟩
  show pm_V _ _ _ _ 137 _ [] _
  refine pm_bl [(.aload_n 1, 1, 1, 0, 0), (.getfield 52, 3, 4, 13, 0), (.aload_n 0, 1, 0, 0, 0), (.getfield 52, 3, 4, 13, 0)] (pc1 := 145) (lo1 := [some (.ref 26), some (.ref 394)]) (st1 := [.ref 38, .ref 406]) (μ1 := μ11) (vc := True) rfl (by decide +kernel) rfl trivial ?_
  refine pm_callSN2 mi_X9_copyRow (ix := 55) (host := RX9) (kc2 := 0) (ks2 := 0) (As := [.ref 406, .ref 38]) (rest := []) (c_X9_copyRow (a := 406) (b := 38) (n := 30) μ11 rfl rfl (by decide)) cal_X9_copyRow (by decide +kernel) (by decide +kernel) (by decide +kernel) rfl rfl (Nat.le_of_ble_eq_true rfl) (by decide) (by decide) ?_
  rintro _ μ12 ⟨rfl, e12⟩
  show pm_V _ _ _ _ 148 _ [] _
  exact pm_vret rfl (by decide) (by decide) (by decide +kernel) (by
    subst e1; subst e2; subst e3; subst e4; subst e5; subst e6; subst e7; subst e8; subst e9; subst e10; subst e11; subst e12
    refine ⟨rfl, rfl, fun i hi => by rw [pm_row_off (by omega), pm_row_off (by omega), pm_row_off (by omega), pm_row_off (by omega), pm_row_off (by omega), pm_row_off (by omega), pm_row_off (by omega), pm_row_off (by omega), pm_row_off (by omega), pm_row_off (by omega), pm_row_off (by omega), pm_row_off (by omega), pm_set_off (by omega), pm_set_off (by omega)], lr_Rl.mv (b := 369) (b2 := 1) hX hn (by simp only [Nat.reduceAdd]; rw [pm_row_off (by decide), pm_row_off (by decide), pm_row_off (by decide), pm_row_off (by decide), pm_row_off (by decide), pm_row_off (by decide), pm_row_off (by decide), pm_row_off (by decide), pm_row_off (by decide), pm_row_off (by decide), pm_row_off (by decide), pm_row_off (by decide), pm_set_miss (Or.inr (by decide)), pm_set_hit]) (by simp only [Nat.reduceAdd]; rw [pm_row_off (by decide), pm_row_off (by decide), pm_row_off (by decide), pm_row_off (by decide), pm_row_off (by decide), pm_row_off (by decide), pm_row_off (by decide), pm_row_off (by decide), pm_row_off (by decide), pm_row_off (by decide), pm_row_off (by decide), pm_row_off (by decide), pm_set_hit]) (fun k i h1 h2 h3 => ?_) (fun _ _ _ => rfl) rfl⟩
    rcases (show k = 26 ∨ k = 27 ∨ k = 28 ∨ k = 29 ∨ k = 30 ∨ k = 31 ∨ k = 32 ∨ k = 33 ∨ k = 34 ∨ k = 35 ∨ k = 36 ∨ k = 37 by omega) with rfl | rfl | rfl | rfl | rfl | rfl | rfl | rfl | rfl | rfl | rfl | rfl
    · simp only [Nat.reduceAdd]; rw [pm_row_off (by decide), pm_row_off (by decide), pm_row_off (by decide), pm_row_off (by decide), pm_row_off (by decide), pm_row_off (by decide), pm_row_off (by decide), pm_row_off (by decide), pm_row_off (by decide), pm_row_off (by decide), pm_row_off (by decide), pm_row_at]; unfold va_cpy; rw [if_pos (by omega), pm_set_off (by decide), pm_set_off (by decide), show 0 + (i - 0) = i from by omega]
    · simp only [Nat.reduceAdd]; rw [pm_row_off (by decide), pm_row_off (by decide), pm_row_off (by decide), pm_row_off (by decide), pm_row_off (by decide), pm_row_off (by decide), pm_row_off (by decide), pm_row_off (by decide), pm_row_off (by decide), pm_row_off (by decide), pm_row_at]; unfold va_cpy; rw [if_pos (by omega), pm_row_off (by decide), pm_set_off (by decide), pm_set_off (by decide), show 0 + (i - 0) = i from by omega]
    · simp only [Nat.reduceAdd]; rw [pm_row_off (by decide), pm_row_off (by decide), pm_row_off (by decide), pm_row_off (by decide), pm_row_off (by decide), pm_row_off (by decide), pm_row_off (by decide), pm_row_off (by decide), pm_row_off (by decide), pm_row_at]; unfold va_cpy; rw [if_pos (by omega), pm_row_off (by decide), pm_row_off (by decide), pm_set_off (by decide), pm_set_off (by decide), show 0 + (i - 0) = i from by omega]
    · simp only [Nat.reduceAdd]; rw [pm_row_off (by decide), pm_row_off (by decide), pm_row_off (by decide), pm_row_off (by decide), pm_row_off (by decide), pm_row_off (by decide), pm_row_off (by decide), pm_row_off (by decide), pm_row_at]; unfold va_cpy; rw [if_pos (by omega), pm_row_off (by decide), pm_row_off (by decide), pm_row_off (by decide), pm_set_off (by decide), pm_set_off (by decide), show 0 + (i - 0) = i from by omega]
    · simp only [Nat.reduceAdd]; rw [pm_row_off (by decide), pm_row_off (by decide), pm_row_off (by decide), pm_row_off (by decide), pm_row_off (by decide), pm_row_off (by decide), pm_row_off (by decide), pm_row_at]; unfold va_cpy; rw [if_pos (by omega), pm_row_off (by decide), pm_row_off (by decide), pm_row_off (by decide), pm_row_off (by decide), pm_set_off (by decide), pm_set_off (by decide), show 0 + (i - 0) = i from by omega]
    · simp only [Nat.reduceAdd]; rw [pm_row_off (by decide), pm_row_off (by decide), pm_row_off (by decide), pm_row_off (by decide), pm_row_off (by decide), pm_row_off (by decide), pm_row_at]; unfold va_cpy; rw [if_pos (by omega), pm_row_off (by decide), pm_row_off (by decide), pm_row_off (by decide), pm_row_off (by decide), pm_row_off (by decide), pm_set_off (by decide), pm_set_off (by decide), show 0 + (i - 0) = i from by omega]
    · simp only [Nat.reduceAdd]; rw [pm_row_off (by decide), pm_row_off (by decide), pm_row_off (by decide), pm_row_off (by decide), pm_row_off (by decide), pm_row_at]; unfold va_cpy; rw [if_pos (by omega), pm_row_off (by decide), pm_row_off (by decide), pm_row_off (by decide), pm_row_off (by decide), pm_row_off (by decide), pm_row_off (by decide), pm_set_off (by decide), pm_set_off (by decide), show 0 + (i - 0) = i from by omega]
    · simp only [Nat.reduceAdd]; rw [pm_row_off (by decide), pm_row_off (by decide), pm_row_off (by decide), pm_row_off (by decide), pm_row_at]; unfold va_cpy; rw [if_pos (by omega), pm_row_off (by decide), pm_row_off (by decide), pm_row_off (by decide), pm_row_off (by decide), pm_row_off (by decide), pm_row_off (by decide), pm_row_off (by decide), pm_set_off (by decide), pm_set_off (by decide), show 0 + (i - 0) = i from by omega]
    · simp only [Nat.reduceAdd]; rw [pm_row_off (by decide), pm_row_off (by decide), pm_row_off (by decide), pm_row_at]; unfold va_cpy; rw [if_pos (by omega), pm_row_off (by decide), pm_row_off (by decide), pm_row_off (by decide), pm_row_off (by decide), pm_row_off (by decide), pm_row_off (by decide), pm_row_off (by decide), pm_row_off (by decide), pm_set_off (by decide), pm_set_off (by decide), show 0 + (i - 0) = i from by omega]
    · simp only [Nat.reduceAdd]; rw [pm_row_off (by decide), pm_row_off (by decide), pm_row_at]; unfold va_cpy; rw [if_pos (by omega), pm_row_off (by decide), pm_row_off (by decide), pm_row_off (by decide), pm_row_off (by decide), pm_row_off (by decide), pm_row_off (by decide), pm_row_off (by decide), pm_row_off (by decide), pm_row_off (by decide), pm_set_off (by decide), pm_set_off (by decide), show 0 + (i - 0) = i from by omega]
    · simp only [Nat.reduceAdd]; rw [pm_row_off (by decide), pm_row_at]; unfold va_cpy; rw [if_pos (by omega), pm_row_off (by decide), pm_row_off (by decide), pm_row_off (by decide), pm_row_off (by decide), pm_row_off (by decide), pm_row_off (by decide), pm_row_off (by decide), pm_row_off (by decide), pm_row_off (by decide), pm_row_off (by decide), pm_set_off (by decide), pm_set_off (by decide), show 0 + (i - 0) = i from by omega]
    · simp only [Nat.reduceAdd]; rw [pm_row_at]; unfold va_cpy; rw [if_pos (by omega), pm_row_off (by decide), pm_row_off (by decide), pm_row_off (by decide), pm_row_off (by decide), pm_row_off (by decide), pm_row_off (by decide), pm_row_off (by decide), pm_row_off (by decide), pm_row_off (by decide), pm_row_off (by decide), pm_row_off (by decide), pm_set_off (by decide), pm_set_off (by decide), show 0 + (i - 0) = i from by omega])
set_option maxHeartbeats 4000000 in
set_option maxRecDepth 100000 in
theorem c_X5_copyFrom_1_369 {g : Nat → Int32} (μ : pm_Mm) (hR : lr_Rel μ.1 369 g) (hB : lr_B g) : pm_CT mi_X5_copyFrom [.ref 1, .ref 369] μ (fun v μ2 => v = none ∧ μ2.2 = μ.2 ∧ (∀ i, (i < 1 ∨ 39 < i) → μ2.1 i = μ.1 i) ∧ lr_Rel μ2.1 1 g) pm_NX := by
  refine pm_CT_of (lo := [some (.ref 1), some (.ref 369)]) (by decide +kernel) rfl rfl (by intro v hv; simp at hv; rcases hv with rfl | rfl <;> rfl) (Nat.le_of_ble_eq_true rfl) rfl ?_
  obtain ⟨hm1, hm3, hm2, hm4, hm5, hm6⟩ := id hB
  refine pm_bl [(.aload_n 0, 1, 0, 0, 0), (.getfield 12, 3, 5, 0, 0), (.aload_n 1, 1, 1, 0, 0), (.getfield 12, 3, 5, 0, 0)] (pc1 := 8) (lo1 := [some (.ref 1), some (.ref 369)]) (st1 := [.ref 370, .ref 2]) (μ1 := μ) (vc := True) rfl (by decide +kernel) rfl trivial ?_
  refine pm_callV2 mi_X3_copyFrom (ix := 61) (b := 2) (ci := 3) (kc2 := 0) (ks2 := 0) (As := [.ref 370]) (rest := []) (c_X3_copyFrom_1_369 μ hR.2.1 hm1) cal_X3_copyFrom lk5_61 (by decide +kernel) rfl (by decide +kernel) rfl rfl rfl rfl (Nat.le_of_ble_eq_true rfl) (by decide) (by decide) (fun _ _ h9 => h9.elim) ?_
  rintro _ μ1 ⟨rfl, x1, f1, r1⟩
  show pm_V _ _ _ _ 11 _ [] _
  refine pm_bl [(.aload_n 0, 1, 0, 0, 0), (.getfield 21, 3, 5, 1, 0), (.aload_n 1, 1, 1, 0, 0), (.getfield 21, 3, 5, 1, 0)] (pc1 := 19) (lo1 := [some (.ref 1), some (.ref 369)]) (st1 := [.ref 373, .ref 5]) (μ1 := μ1) (vc := True) rfl (by decide +kernel) rfl trivial ?_
  refine pm_callV2 mi_X6_copyFrom (ix := 65) (b := 5) (ci := 6) (kc2 := 0) (ks2 := 0) (As := [.ref 373]) (rest := []) (c_X6_copyFrom_1_369 μ1 (lr_Rp.st (b := 369) hR.2.2.1 hm3 (fun k h1 h2 => by rw [f1 _ (by omega)]) (fun _ _ _ => rfl)) hm3) cal_X6_copyFrom lk5_65 (by decide +kernel) rfl (by decide +kernel) rfl rfl rfl rfl (Nat.le_of_ble_eq_true rfl) (by decide) (by decide) (fun _ _ h9 => h9.elim) ?_
  rintro _ μ2 ⟨rfl, x2, f2, r2⟩
  show pm_V _ _ _ _ 22 _ [] _
  refine pm_bl [(.aload_n 0, 1, 0, 0, 0), (.getfield 28, 3, 5, 2, 0), (.aload_n 1, 1, 1, 0, 0), (.getfield 28, 3, 5, 2, 0)] (pc1 := 30) (lo1 := [some (.ref 1), some (.ref 369)]) (st1 := [.ref 378, .ref 10]) (μ1 := μ2) (vc := True) rfl (by decide +kernel) rfl trivial ?_
  refine pm_callV2 mi_X8_copyFrom (ix := 68) (b := 10) (ci := 8) (kc2 := 0) (ks2 := 0) (As := [.ref 378]) (rest := []) (c_X8_copyFrom_1_369 μ2 (lr_Rw.st (b := 369) hR.2.2.2.1 hm2 (fun k h1 h2 => by rw [f2 _ (by omega), f1 _ (by omega)]) (fun _ _ _ => rfl)) hm2) cal_X8_copyFrom lk5_68 (by decide +kernel) rfl (by decide +kernel) rfl rfl rfl rfl (Nat.le_of_ble_eq_true rfl) (by decide) (by decide) (fun _ _ h9 => h9.elim) ?_
  rintro _ μ3 ⟨rfl, x3, f3, r3⟩
  show pm_V _ _ _ _ 33 _ [] _
  refine pm_bl [(.aload_n 0, 1, 0, 0, 0), (.getfield 35, 3, 5, 3, 0), (.aload_n 1, 1, 1, 0, 0), (.getfield 35, 3, 5, 3, 0)] (pc1 := 41) (lo1 := [some (.ref 1), some (.ref 369)]) (st1 := [.ref 384, .ref 16]) (μ1 := μ3) (vc := True) rfl (by decide +kernel) rfl trivial ?_
  refine pm_callV2 mi_X7_copyFrom (ix := 71) (b := 16) (ci := 7) (kc2 := 0) (ks2 := 0) (As := [.ref 384]) (rest := []) (c_X7_copyFrom_1_369 μ3 (lr_Rr.st (b := 369) hR.2.2.2.2.1 hm4 (fun k h1 h2 => by rw [f3 _ (by omega), f2 _ (by omega), f1 _ (by omega)]) (fun _ _ _ => rfl)) hm4) cal_X7_copyFrom lk5_71 (by decide +kernel) rfl (by decide +kernel) rfl rfl rfl rfl (Nat.le_of_ble_eq_true rfl) (by decide) (by decide) (fun _ _ h9 => h9.elim) ?_
  rintro _ μ4 ⟨rfl, x4, f4, r4⟩
  show pm_V _ _ _ _ 44 _ [] _
  refine pm_bl [(.aload_n 0, 1, 0, 0, 0), (.getfield 42, 3, 5, 4, 0), (.aload_n 1, 1, 1, 0, 0), (.getfield 42, 3, 5, 4, 0)] (pc1 := 52) (lo1 := [some (.ref 1), some (.ref 369)]) (st1 := [.ref 390, .ref 22]) (μ1 := μ4) (vc := True) rfl (by decide +kernel) rfl trivial ?_
  refine pm_callV2 mi_X0_copyFrom (ix := 74) (b := 22) (ci := 0) (kc2 := 0) (ks2 := 0) (As := [.ref 390]) (rest := []) (c_X0_copyFrom_1_369 μ4 (lr_Ra.st (b := 369) hR.2.2.2.2.2.1 hm5 (fun k h1 h2 => by rw [f4 _ (by omega), f3 _ (by omega), f2 _ (by omega), f1 _ (by omega)]) (fun _ _ _ => rfl)) hm5) cal_X0_copyFrom lk5_74 (by decide +kernel) rfl (by decide +kernel) rfl rfl rfl rfl (Nat.le_of_ble_eq_true rfl) (by decide) (by decide) (fun _ _ h9 => h9.elim) ?_
  rintro _ μ5 ⟨rfl, x5, f5, r5⟩
  show pm_V _ _ _ _ 55 _ [] _
  refine pm_bl [(.aload_n 0, 1, 0, 0, 0), (.getfield 49, 3, 5, 5, 0), (.aload_n 1, 1, 1, 0, 0), (.getfield 49, 3, 5, 5, 0)] (pc1 := 63) (lo1 := [some (.ref 1), some (.ref 369)]) (st1 := [.ref 394, .ref 26]) (μ1 := μ5) (vc := True) rfl (by decide +kernel) rfl trivial ?_
  refine pm_callV2 mi_X4_copyFrom (ix := 77) (b := 26) (ci := 4) (kc2 := 0) (ks2 := 0) (As := [.ref 394]) (rest := []) (c_X4_copyFrom_1_369 μ5 (lr_Rl.st (b := 369) hR.2.2.2.2.2.2 hm6 (fun k h1 h2 => by rw [f5 _ (by omega), f4 _ (by omega), f3 _ (by omega), f2 _ (by omega), f1 _ (by omega)]) rfl (fun _ _ _ => rfl)) hm6) cal_X4_copyFrom lk5_77 (by decide +kernel) rfl (by decide +kernel) rfl rfl rfl rfl (Nat.le_of_ble_eq_true rfl) (by decide) (by decide) (fun _ _ h9 => h9.elim) ?_
  rintro _ μ6 ⟨rfl, x6, f6, r6⟩
  show pm_V _ _ _ _ 66 _ [] _
  refine pm_bl [(.aload_n 0, 1, 0, 0, 0), (.aload_n 1, 1, 1, 0, 0), (.getfield 53, 3, 5, 6, 0), (.putfield 53, 3, 5, 6, 0)] (pc1 := 74) (lo1 := [some (.ref 1), some (.ref 369)]) (st1 := []) (μ1 := pm_set μ6 1 6 (μ6.1 369 6)) (vc := True) rfl (by decide +kernel) rfl trivial ?_
  exact pm_vret rfl (by decide) (by decide) (by decide +kernel) (⟨rfl, (x6.trans (x5.trans (x4.trans (x3.trans (x2.trans x1))))), fun i hi => by rw [pm_set_off (by omega), f6 _ (by omega), f5 _ (by omega), f4 _ (by omega), f3 _ (by omega), f2 _ (by omega), f1 _ (by omega)], by rw [pm_set_hit, f6 _ (by omega), f5 _ (by omega), f4 _ (by omega), f3 _ (by omega), f2 _ (by omega), f1 _ (by omega)]; exact hR.1, lr_Rh.st (b := 1) r1 hm1 (fun k h1 h2 => by rw [pm_set_off (by omega), f6 _ (by omega), f5 _ (by omega), f4 _ (by omega), f3 _ (by omega), f2 _ (by omega)]) (fun _ _ _ => rfl), lr_Rp.st (b := 1) r2 hm3 (fun k h1 h2 => by rw [pm_set_off (by omega), f6 _ (by omega), f5 _ (by omega), f4 _ (by omega), f3 _ (by omega)]) (fun _ _ _ => rfl), lr_Rw.st (b := 1) r3 hm2 (fun k h1 h2 => by rw [pm_set_off (by omega), f6 _ (by omega), f5 _ (by omega), f4 _ (by omega)]) (fun _ _ _ => rfl), lr_Rr.st (b := 1) r4 hm4 (fun k h1 h2 => by rw [pm_set_off (by omega), f6 _ (by omega), f5 _ (by omega)]) (fun _ _ _ => rfl), lr_Ra.st (b := 1) r5 hm5 (fun k h1 h2 => by rw [pm_set_off (by omega), f6 _ (by omega)]) (fun _ _ _ => rfl), lr_Rl.st (b := 1) r6 hm6 (fun k h1 h2 => by rw [pm_set_off (by omega)]) rfl (fun _ _ _ => rfl)⟩)
set_option maxHeartbeats 4000000 in
set_option maxRecDepth 100000 in
theorem c_X3_copyFrom_57_1 {g : Nat → Int32} (μ : pm_Mm) (hX : lr_Rh μ.1 1 g) (hn : lr_n g 2 ≤ 16) : pm_CT mi_X3_copyFrom [.ref 58, .ref 2] μ (fun v μ2 => v = none ∧ μ2.2 = μ.2 ∧ (∀ i, (i < 58 ∨ 60 < i) → μ2.1 i = μ.1 i) ∧ lr_Rh μ2.1 57 g) pm_NX := by
  refine pm_CT_of (lo := [some (.ref 58), some (.ref 2)]) (by decide +kernel) rfl rfl (by intro v hv; simp at hv; rcases hv with rfl | rfl <;> rfl) (Nat.le_of_ble_eq_true rfl) rfl ?_
  refine pm_bl [(.aload_n 0, 1, 0, 0, 0), (.aload_n 1, 1, 1, 0, 0), (.getfield 9, 3, 3, 0, 0), (.putfield 9, 3, 3, 0, 0), (.aload_n 1, 1, 1, 0, 0), (.getfield 15, 3, 3, 1, 0), (.aload_n 0, 1, 0, 0, 0), (.getfield 15, 3, 3, 1, 0)] (pc1 := 16) (lo1 := [some (.ref 58), some (.ref 2)]) (st1 := [.ref 59, .ref 3]) (μ1 := pm_set μ 58 0 (μ.1 2 0)) (vc := True) rfl (by decide +kernel) rfl trivial ?_
  refine pm_callSN2 mi_X9_copyRow (ix := 22) (host := RX9) (kc2 := 0) (ks2 := 0) (As := [.ref 3, .ref 59]) (rest := []) (c_X9_copyRow (a := 3) (b := 59) (n := 16) (pm_set μ 58 0 (μ.1 2 0)) rfl rfl (by decide)) cal_X9_copyRow (by decide +kernel) (by decide +kernel) (by decide +kernel) rfl rfl (Nat.le_of_ble_eq_true rfl) (by decide) (by decide) ?_
  rintro _ μ1 ⟨rfl, e1⟩
  show pm_V _ _ _ _ 19 _ [] _
  refine pm_bl [(.aload_n 1, 1, 1, 0, 0), (.getfield 19, 3, 3, 2, 0), (.aload_n 0, 1, 0, 0, 0), (.getfield 19, 3, 3, 2, 0)] (pc1 := 27) (lo1 := [some (.ref 58), some (.ref 2)]) (st1 := [.ref 60, .ref 4]) (μ1 := μ1) (vc := True) rfl (by decide +kernel) rfl trivial ?_
  refine pm_callSN2 mi_X9_copyRow (ix := 22) (host := RX9) (kc2 := 0) (ks2 := 0) (As := [.ref 4, .ref 60]) (rest := []) (c_X9_copyRow (a := 4) (b := 60) (n := 16) μ1 rfl rfl (by decide)) cal_X9_copyRow (by decide +kernel) (by decide +kernel) (by decide +kernel) rfl rfl (Nat.le_of_ble_eq_true rfl) (by decide) (by decide) ?_
  rintro _ μ2 ⟨rfl, e2⟩
  show pm_V _ _ _ _ 30 _ [] _
  exact pm_vret rfl (by decide) (by decide) (by decide +kernel) (by
    subst e1; subst e2
    refine ⟨rfl, rfl, fun i hi => by rw [pm_row_off (by omega), pm_row_off (by omega), pm_set_off (by omega)], lr_Rh.mv (b := 1) (b2 := 57) hX hn (by simp only [Nat.reduceAdd]; rw [pm_row_off (by decide), pm_row_off (by decide), pm_set_hit]) (fun k i h1 h2 h3 => ?_) (fun _ _ _ => rfl)⟩
    rcases (show k = 2 ∨ k = 3 by omega) with rfl | rfl
    · simp only [Nat.reduceAdd]; rw [pm_row_off (by decide), pm_row_at]; unfold va_cpy; rw [if_pos (by omega), pm_set_off (by decide), show 0 + (i - 0) = i from by omega]
    · simp only [Nat.reduceAdd]; rw [pm_row_at]; unfold va_cpy; rw [if_pos (by omega), pm_row_off (by decide), pm_set_off (by decide), show 0 + (i - 0) = i from by omega])
set_option maxHeartbeats 4000000 in
set_option maxRecDepth 100000 in
theorem c_X6_copyFrom_57_1 {g : Nat → Int32} (μ : pm_Mm) (hX : lr_Rp μ.1 1 g) (hn : lr_n g 35 ≤ 20) : pm_CT mi_X6_copyFrom [.ref 61, .ref 5] μ (fun v μ2 => v = none ∧ μ2.2 = μ.2 ∧ (∀ i, (i < 61 ∨ 65 < i) → μ2.1 i = μ.1 i) ∧ lr_Rp μ2.1 57 g) pm_NX := by
  refine pm_CT_of (lo := [some (.ref 61), some (.ref 5)]) (by decide +kernel) rfl rfl (by intro v hv; simp at hv; rcases hv with rfl | rfl <;> rfl) (Nat.le_of_ble_eq_true rfl) rfl ?_
  refine pm_bl [(.aload_n 0, 1, 0, 0, 0), (.aload_n 1, 1, 1, 0, 0), (.getfield 9, 3, 6, 0, 0), (.putfield 9, 3, 6, 0, 0), (.aload_n 1, 1, 1, 0, 0), (.getfield 15, 3, 6, 1, 0), (.aload_n 0, 1, 0, 0, 0), (.getfield 15, 3, 6, 1, 0)] (pc1 := 16) (lo1 := [some (.ref 61), some (.ref 5)]) (st1 := [.ref 62, .ref 6]) (μ1 := pm_set μ 61 0 (μ.1 5 0)) (vc := True) rfl (by decide +kernel) rfl trivial ?_
  refine pm_callSN2 mi_X9_copyRow (ix := 28) (host := RX9) (kc2 := 0) (ks2 := 0) (As := [.ref 6, .ref 62]) (rest := []) (c_X9_copyRow (a := 6) (b := 62) (n := 20) (pm_set μ 61 0 (μ.1 5 0)) rfl rfl (by decide)) cal_X9_copyRow (by decide +kernel) (by decide +kernel) (by decide +kernel) rfl rfl (Nat.le_of_ble_eq_true rfl) (by decide) (by decide) ?_
  rintro _ μ1 ⟨rfl, e1⟩
  show pm_V _ _ _ _ 19 _ [] _
  refine pm_bl [(.aload_n 1, 1, 1, 0, 0), (.getfield 19, 3, 6, 2, 0), (.aload_n 0, 1, 0, 0, 0), (.getfield 19, 3, 6, 2, 0)] (pc1 := 27) (lo1 := [some (.ref 61), some (.ref 5)]) (st1 := [.ref 63, .ref 7]) (μ1 := μ1) (vc := True) rfl (by decide +kernel) rfl trivial ?_
  refine pm_callSN2 mi_X9_copyRow (ix := 28) (host := RX9) (kc2 := 0) (ks2 := 0) (As := [.ref 7, .ref 63]) (rest := []) (c_X9_copyRow (a := 7) (b := 63) (n := 20) μ1 rfl rfl (by decide)) cal_X9_copyRow (by decide +kernel) (by decide +kernel) (by decide +kernel) rfl rfl (Nat.le_of_ble_eq_true rfl) (by decide) (by decide) ?_
  rintro _ μ2 ⟨rfl, e2⟩
  show pm_V _ _ _ _ 30 _ [] _
  refine pm_bl [(.aload_n 1, 1, 1, 0, 0), (.getfield 22, 3, 6, 3, 0), (.aload_n 0, 1, 0, 0, 0), (.getfield 22, 3, 6, 3, 0)] (pc1 := 38) (lo1 := [some (.ref 61), some (.ref 5)]) (st1 := [.ref 64, .ref 8]) (μ1 := μ2) (vc := True) rfl (by decide +kernel) rfl trivial ?_
  refine pm_callSN2 mi_X9_copyRow (ix := 28) (host := RX9) (kc2 := 0) (ks2 := 0) (As := [.ref 8, .ref 64]) (rest := []) (c_X9_copyRow (a := 8) (b := 64) (n := 20) μ2 rfl rfl (by decide)) cal_X9_copyRow (by decide +kernel) (by decide +kernel) (by decide +kernel) rfl rfl (Nat.le_of_ble_eq_true rfl) (by decide) (by decide) ?_
  rintro _ μ3 ⟨rfl, e3⟩
  show pm_V _ _ _ _ 41 _ [] _
  refine pm_bl [(.aload_n 1, 1, 1, 0, 0), (.getfield 25, 3, 6, 4, 0), (.aload_n 0, 1, 0, 0, 0), (.getfield 25, 3, 6, 4, 0)] (pc1 := 49) (lo1 := [some (.ref 61), some (.ref 5)]) (st1 := [.ref 65, .ref 9]) (μ1 := μ3) (vc := True) rfl (by decide +kernel) rfl trivial ?_
  refine pm_callSN2 mi_X9_copyRow (ix := 28) (host := RX9) (kc2 := 0) (ks2 := 0) (As := [.ref 9, .ref 65]) (rest := []) (c_X9_copyRow (a := 9) (b := 65) (n := 20) μ3 rfl rfl (by decide)) cal_X9_copyRow (by decide +kernel) (by decide +kernel) (by decide +kernel) rfl rfl (Nat.le_of_ble_eq_true rfl) (by decide) (by decide) ?_
  rintro _ μ4 ⟨rfl, e4⟩
  show pm_V _ _ _ _ 52 _ [] _
  exact pm_vret rfl (by decide) (by decide) (by decide +kernel) (by
    subst e1; subst e2; subst e3; subst e4
    refine ⟨rfl, rfl, fun i hi => by rw [pm_row_off (by omega), pm_row_off (by omega), pm_row_off (by omega), pm_row_off (by omega), pm_set_off (by omega)], lr_Rp.mv (b := 1) (b2 := 57) hX hn (by simp only [Nat.reduceAdd]; rw [pm_row_off (by decide), pm_row_off (by decide), pm_row_off (by decide), pm_row_off (by decide), pm_set_hit]) (fun k i h1 h2 h3 => ?_) (fun _ _ _ => rfl)⟩
    rcases (show k = 5 ∨ k = 6 ∨ k = 7 ∨ k = 8 by omega) with rfl | rfl | rfl | rfl
    · simp only [Nat.reduceAdd]; rw [pm_row_off (by decide), pm_row_off (by decide), pm_row_off (by decide), pm_row_at]; unfold va_cpy; rw [if_pos (by omega), pm_set_off (by decide), show 0 + (i - 0) = i from by omega]
    · simp only [Nat.reduceAdd]; rw [pm_row_off (by decide), pm_row_off (by decide), pm_row_at]; unfold va_cpy; rw [if_pos (by omega), pm_row_off (by decide), pm_set_off (by decide), show 0 + (i - 0) = i from by omega]
    · simp only [Nat.reduceAdd]; rw [pm_row_off (by decide), pm_row_at]; unfold va_cpy; rw [if_pos (by omega), pm_row_off (by decide), pm_row_off (by decide), pm_set_off (by decide), show 0 + (i - 0) = i from by omega]
    · simp only [Nat.reduceAdd]; rw [pm_row_at]; unfold va_cpy; rw [if_pos (by omega), pm_row_off (by decide), pm_row_off (by decide), pm_row_off (by decide), pm_set_off (by decide), show 0 + (i - 0) = i from by omega])
set_option maxHeartbeats 4000000 in
set_option maxRecDepth 100000 in
theorem c_X8_copyFrom_57_1 {g : Nat → Int32} (μ : pm_Mm) (hX : lr_Rw μ.1 1 g) (hn : lr_n g 116 ≤ 10) : pm_CT mi_X8_copyFrom [.ref 66, .ref 10] μ (fun v μ2 => v = none ∧ μ2.2 = μ.2 ∧ (∀ i, (i < 66 ∨ 71 < i) → μ2.1 i = μ.1 i) ∧ lr_Rw μ2.1 57 g) pm_NX := by
  refine pm_CT_of (lo := [some (.ref 66), some (.ref 10)]) (by decide +kernel) rfl rfl (by intro v hv; simp at hv; rcases hv with rfl | rfl <;> rfl) (Nat.le_of_ble_eq_true rfl) rfl ?_
  refine pm_bl [(.aload_n 0, 1, 0, 0, 0), (.aload_n 1, 1, 1, 0, 0), (.getfield 9, 3, 8, 0, 0), (.putfield 9, 3, 8, 0, 0), (.aload_n 1, 1, 1, 0, 0), (.getfield 15, 3, 8, 1, 0), (.aload_n 0, 1, 0, 0, 0), (.getfield 15, 3, 8, 1, 0)] (pc1 := 16) (lo1 := [some (.ref 66), some (.ref 10)]) (st1 := [.ref 67, .ref 11]) (μ1 := pm_set μ 66 0 (μ.1 10 0)) (vc := True) rfl (by decide +kernel) rfl trivial ?_
  refine pm_callSN2 mi_X9_copyRow (ix := 31) (host := RX9) (kc2 := 0) (ks2 := 0) (As := [.ref 11, .ref 67]) (rest := []) (c_X9_copyRow (a := 11) (b := 67) (n := 10) (pm_set μ 66 0 (μ.1 10 0)) rfl rfl (by decide)) cal_X9_copyRow (by decide +kernel) (by decide +kernel) (by decide +kernel) rfl rfl (Nat.le_of_ble_eq_true rfl) (by decide) (by decide) ?_
  rintro _ μ1 ⟨rfl, e1⟩
  show pm_V _ _ _ _ 19 _ [] _
  refine pm_bl [(.aload_n 1, 1, 1, 0, 0), (.getfield 19, 3, 8, 2, 0), (.aload_n 0, 1, 0, 0, 0), (.getfield 19, 3, 8, 2, 0)] (pc1 := 27) (lo1 := [some (.ref 66), some (.ref 10)]) (st1 := [.ref 68, .ref 12]) (μ1 := μ1) (vc := True) rfl (by decide +kernel) rfl trivial ?_
  refine pm_callSN2 mi_X9_copyRow (ix := 31) (host := RX9) (kc2 := 0) (ks2 := 0) (As := [.ref 12, .ref 68]) (rest := []) (c_X9_copyRow (a := 12) (b := 68) (n := 10) μ1 rfl rfl (by decide)) cal_X9_copyRow (by decide +kernel) (by decide +kernel) (by decide +kernel) rfl rfl (Nat.le_of_ble_eq_true rfl) (by decide) (by decide) ?_
  rintro _ μ2 ⟨rfl, e2⟩
  show pm_V _ _ _ _ 30 _ [] _
  refine pm_bl [(.aload_n 1, 1, 1, 0, 0), (.getfield 22, 3, 8, 3, 0), (.aload_n 0, 1, 0, 0, 0), (.getfield 22, 3, 8, 3, 0)] (pc1 := 38) (lo1 := [some (.ref 66), some (.ref 10)]) (st1 := [.ref 69, .ref 13]) (μ1 := μ2) (vc := True) rfl (by decide +kernel) rfl trivial ?_
  refine pm_callSN2 mi_X9_copyRow (ix := 31) (host := RX9) (kc2 := 0) (ks2 := 0) (As := [.ref 13, .ref 69]) (rest := []) (c_X9_copyRow (a := 13) (b := 69) (n := 10) μ2 rfl rfl (by decide)) cal_X9_copyRow (by decide +kernel) (by decide +kernel) (by decide +kernel) rfl rfl (Nat.le_of_ble_eq_true rfl) (by decide) (by decide) ?_
  rintro _ μ3 ⟨rfl, e3⟩
  show pm_V _ _ _ _ 41 _ [] _
  refine pm_bl [(.aload_n 1, 1, 1, 0, 0), (.getfield 25, 3, 8, 4, 0), (.aload_n 0, 1, 0, 0, 0), (.getfield 25, 3, 8, 4, 0)] (pc1 := 49) (lo1 := [some (.ref 66), some (.ref 10)]) (st1 := [.ref 70, .ref 14]) (μ1 := μ3) (vc := True) rfl (by decide +kernel) rfl trivial ?_
  refine pm_callSN2 mi_X9_copyRow (ix := 31) (host := RX9) (kc2 := 0) (ks2 := 0) (As := [.ref 14, .ref 70]) (rest := []) (c_X9_copyRow (a := 14) (b := 70) (n := 10) μ3 rfl rfl (by decide)) cal_X9_copyRow (by decide +kernel) (by decide +kernel) (by decide +kernel) rfl rfl (Nat.le_of_ble_eq_true rfl) (by decide) (by decide) ?_
  rintro _ μ4 ⟨rfl, e4⟩
  show pm_V _ _ _ _ 52 _ [] _
  refine pm_bl [(.aload_n 1, 1, 1, 0, 0), (.getfield 28, 3, 8, 5, 0), (.aload_n 0, 1, 0, 0, 0), (.getfield 28, 3, 8, 5, 0)] (pc1 := 60) (lo1 := [some (.ref 66), some (.ref 10)]) (st1 := [.ref 71, .ref 15]) (μ1 := μ4) (vc := True) rfl (by decide +kernel) rfl trivial ?_
  refine pm_callSN2 mi_X9_copyRow (ix := 31) (host := RX9) (kc2 := 0) (ks2 := 0) (As := [.ref 15, .ref 71]) (rest := []) (c_X9_copyRow (a := 15) (b := 71) (n := 10) μ4 rfl rfl (by decide)) cal_X9_copyRow (by decide +kernel) (by decide +kernel) (by decide +kernel) rfl rfl (Nat.le_of_ble_eq_true rfl) (by decide) (by decide) ?_
  rintro _ μ5 ⟨rfl, e5⟩
  show pm_V _ _ _ _ 63 _ [] _
  exact pm_vret rfl (by decide) (by decide) (by decide +kernel) (by
    subst e1; subst e2; subst e3; subst e4; subst e5
    refine ⟨rfl, rfl, fun i hi => by rw [pm_row_off (by omega), pm_row_off (by omega), pm_row_off (by omega), pm_row_off (by omega), pm_row_off (by omega), pm_set_off (by omega)], lr_Rw.mv (b := 1) (b2 := 57) hX hn (by simp only [Nat.reduceAdd]; rw [pm_row_off (by decide), pm_row_off (by decide), pm_row_off (by decide), pm_row_off (by decide), pm_row_off (by decide), pm_set_hit]) (fun k i h1 h2 h3 => ?_) (fun _ _ _ => rfl)⟩
    rcases (show k = 10 ∨ k = 11 ∨ k = 12 ∨ k = 13 ∨ k = 14 by omega) with rfl | rfl | rfl | rfl | rfl
    · simp only [Nat.reduceAdd]; rw [pm_row_off (by decide), pm_row_off (by decide), pm_row_off (by decide), pm_row_off (by decide), pm_row_at]; unfold va_cpy; rw [if_pos (by omega), pm_set_off (by decide), show 0 + (i - 0) = i from by omega]
    · simp only [Nat.reduceAdd]; rw [pm_row_off (by decide), pm_row_off (by decide), pm_row_off (by decide), pm_row_at]; unfold va_cpy; rw [if_pos (by omega), pm_row_off (by decide), pm_set_off (by decide), show 0 + (i - 0) = i from by omega]
    · simp only [Nat.reduceAdd]; rw [pm_row_off (by decide), pm_row_off (by decide), pm_row_at]; unfold va_cpy; rw [if_pos (by omega), pm_row_off (by decide), pm_row_off (by decide), pm_set_off (by decide), show 0 + (i - 0) = i from by omega]
    · simp only [Nat.reduceAdd]; rw [pm_row_off (by decide), pm_row_at]; unfold va_cpy; rw [if_pos (by omega), pm_row_off (by decide), pm_row_off (by decide), pm_row_off (by decide), pm_set_off (by decide), show 0 + (i - 0) = i from by omega]
    · simp only [Nat.reduceAdd]; rw [pm_row_at]; unfold va_cpy; rw [if_pos (by omega), pm_row_off (by decide), pm_row_off (by decide), pm_row_off (by decide), pm_row_off (by decide), pm_set_off (by decide), show 0 + (i - 0) = i from by omega])
set_option maxHeartbeats 4000000 in
set_option maxRecDepth 100000 in
theorem c_X7_copyFrom_57_1 {g : Nat → Int32} (μ : pm_Mm) (hX : lr_Rr μ.1 1 g) (hn : lr_n g 167 ≤ 12) : pm_CT mi_X7_copyFrom [.ref 72, .ref 16] μ (fun v μ2 => v = none ∧ μ2.2 = μ.2 ∧ (∀ i, (i < 72 ∨ 77 < i) → μ2.1 i = μ.1 i) ∧ lr_Rr μ2.1 57 g) pm_NX := by
  refine pm_CT_of (lo := [some (.ref 72), some (.ref 16)]) (by decide +kernel) rfl rfl (by intro v hv; simp at hv; rcases hv with rfl | rfl <;> rfl) (Nat.le_of_ble_eq_true rfl) rfl ?_
  refine pm_bl [(.aload_n 0, 1, 0, 0, 0), (.aload_n 1, 1, 1, 0, 0), (.getfield 9, 3, 7, 0, 0), (.putfield 9, 3, 7, 0, 0), (.aload_n 1, 1, 1, 0, 0), (.getfield 15, 3, 7, 1, 0), (.aload_n 0, 1, 0, 0, 0), (.getfield 15, 3, 7, 1, 0)] (pc1 := 16) (lo1 := [some (.ref 72), some (.ref 16)]) (st1 := [.ref 73, .ref 17]) (μ1 := pm_set μ 72 0 (μ.1 16 0)) (vc := True) rfl (by decide +kernel) rfl trivial ?_
  refine pm_callSN2 mi_X9_copyRow (ix := 31) (host := RX9) (kc2 := 0) (ks2 := 0) (As := [.ref 17, .ref 73]) (rest := []) (c_X9_copyRow (a := 17) (b := 73) (n := 12) (pm_set μ 72 0 (μ.1 16 0)) rfl rfl (by decide)) cal_X9_copyRow (by decide +kernel) (by decide +kernel) (by decide +kernel) rfl rfl (Nat.le_of_ble_eq_true rfl) (by decide) (by decide) ?_
  rintro _ μ1 ⟨rfl, e1⟩
  show pm_V _ _ _ _ 19 _ [] _
  refine pm_bl [(.aload_n 1, 1, 1, 0, 0), (.getfield 19, 3, 7, 2, 0), (.aload_n 0, 1, 0, 0, 0), (.getfield 19, 3, 7, 2, 0)] (pc1 := 27) (lo1 := [some (.ref 72), some (.ref 16)]) (st1 := [.ref 74, .ref 18]) (μ1 := μ1) (vc := True) rfl (by decide +kernel) rfl trivial ?_
  refine pm_callSN2 mi_X9_copyRow (ix := 31) (host := RX9) (kc2 := 0) (ks2 := 0) (As := [.ref 18, .ref 74]) (rest := []) (c_X9_copyRow (a := 18) (b := 74) (n := 12) μ1 rfl rfl (by decide)) cal_X9_copyRow (by decide +kernel) (by decide +kernel) (by decide +kernel) rfl rfl (Nat.le_of_ble_eq_true rfl) (by decide) (by decide) ?_
  rintro _ μ2 ⟨rfl, e2⟩
  show pm_V _ _ _ _ 30 _ [] _
  refine pm_bl [(.aload_n 1, 1, 1, 0, 0), (.getfield 22, 3, 7, 3, 0), (.aload_n 0, 1, 0, 0, 0), (.getfield 22, 3, 7, 3, 0)] (pc1 := 38) (lo1 := [some (.ref 72), some (.ref 16)]) (st1 := [.ref 75, .ref 19]) (μ1 := μ2) (vc := True) rfl (by decide +kernel) rfl trivial ?_
  refine pm_callSN2 mi_X9_copyRow (ix := 31) (host := RX9) (kc2 := 0) (ks2 := 0) (As := [.ref 19, .ref 75]) (rest := []) (c_X9_copyRow (a := 19) (b := 75) (n := 12) μ2 rfl rfl (by decide)) cal_X9_copyRow (by decide +kernel) (by decide +kernel) (by decide +kernel) rfl rfl (Nat.le_of_ble_eq_true rfl) (by decide) (by decide) ?_
  rintro _ μ3 ⟨rfl, e3⟩
  show pm_V _ _ _ _ 41 _ [] _
  refine pm_bl [(.aload_n 1, 1, 1, 0, 0), (.getfield 25, 3, 7, 4, 0), (.aload_n 0, 1, 0, 0, 0), (.getfield 25, 3, 7, 4, 0)] (pc1 := 49) (lo1 := [some (.ref 72), some (.ref 16)]) (st1 := [.ref 76, .ref 20]) (μ1 := μ3) (vc := True) rfl (by decide +kernel) rfl trivial ?_
  refine pm_callSN2 mi_X9_copyRow (ix := 31) (host := RX9) (kc2 := 0) (ks2 := 0) (As := [.ref 20, .ref 76]) (rest := []) (c_X9_copyRow (a := 20) (b := 76) (n := 12) μ3 rfl rfl (by decide)) cal_X9_copyRow (by decide +kernel) (by decide +kernel) (by decide +kernel) rfl rfl (Nat.le_of_ble_eq_true rfl) (by decide) (by decide) ?_
  rintro _ μ4 ⟨rfl, e4⟩
  show pm_V _ _ _ _ 52 _ [] _
  refine pm_bl [(.aload_n 1, 1, 1, 0, 0), (.getfield 28, 3, 7, 5, 0), (.aload_n 0, 1, 0, 0, 0), (.getfield 28, 3, 7, 5, 0)] (pc1 := 60) (lo1 := [some (.ref 72), some (.ref 16)]) (st1 := [.ref 77, .ref 21]) (μ1 := μ4) (vc := True) rfl (by decide +kernel) rfl trivial ?_
  refine pm_callSN2 mi_X9_copyRow (ix := 31) (host := RX9) (kc2 := 0) (ks2 := 0) (As := [.ref 21, .ref 77]) (rest := []) (c_X9_copyRow (a := 21) (b := 77) (n := 12) μ4 rfl rfl (by decide)) cal_X9_copyRow (by decide +kernel) (by decide +kernel) (by decide +kernel) rfl rfl (Nat.le_of_ble_eq_true rfl) (by decide) (by decide) ?_
  rintro _ μ5 ⟨rfl, e5⟩
  show pm_V _ _ _ _ 63 _ [] _
  exact pm_vret rfl (by decide) (by decide) (by decide +kernel) (by
    subst e1; subst e2; subst e3; subst e4; subst e5
    refine ⟨rfl, rfl, fun i hi => by rw [pm_row_off (by omega), pm_row_off (by omega), pm_row_off (by omega), pm_row_off (by omega), pm_row_off (by omega), pm_set_off (by omega)], lr_Rr.mv (b := 1) (b2 := 57) hX hn (by simp only [Nat.reduceAdd]; rw [pm_row_off (by decide), pm_row_off (by decide), pm_row_off (by decide), pm_row_off (by decide), pm_row_off (by decide), pm_set_hit]) (fun k i h1 h2 h3 => ?_) (fun _ _ _ => rfl)⟩
    rcases (show k = 16 ∨ k = 17 ∨ k = 18 ∨ k = 19 ∨ k = 20 by omega) with rfl | rfl | rfl | rfl | rfl
    · simp only [Nat.reduceAdd]; rw [pm_row_off (by decide), pm_row_off (by decide), pm_row_off (by decide), pm_row_off (by decide), pm_row_at]; unfold va_cpy; rw [if_pos (by omega), pm_set_off (by decide), show 0 + (i - 0) = i from by omega]
    · simp only [Nat.reduceAdd]; rw [pm_row_off (by decide), pm_row_off (by decide), pm_row_off (by decide), pm_row_at]; unfold va_cpy; rw [if_pos (by omega), pm_row_off (by decide), pm_set_off (by decide), show 0 + (i - 0) = i from by omega]
    · simp only [Nat.reduceAdd]; rw [pm_row_off (by decide), pm_row_off (by decide), pm_row_at]; unfold va_cpy; rw [if_pos (by omega), pm_row_off (by decide), pm_row_off (by decide), pm_set_off (by decide), show 0 + (i - 0) = i from by omega]
    · simp only [Nat.reduceAdd]; rw [pm_row_off (by decide), pm_row_at]; unfold va_cpy; rw [if_pos (by omega), pm_row_off (by decide), pm_row_off (by decide), pm_row_off (by decide), pm_set_off (by decide), show 0 + (i - 0) = i from by omega]
    · simp only [Nat.reduceAdd]; rw [pm_row_at]; unfold va_cpy; rw [if_pos (by omega), pm_row_off (by decide), pm_row_off (by decide), pm_row_off (by decide), pm_row_off (by decide), pm_set_off (by decide), show 0 + (i - 0) = i from by omega])
set_option maxHeartbeats 4000000 in
set_option maxRecDepth 100000 in
theorem c_X0_copyFrom_57_1 {g : Nat → Int32} (μ : pm_Mm) (hX : lr_Ra μ.1 1 g) (hn : lr_n g 228 ≤ 20) : pm_CT mi_X0_copyFrom [.ref 78, .ref 22] μ (fun v μ2 => v = none ∧ μ2.2 = μ.2 ∧ (∀ i, (i < 78 ∨ 81 < i) → μ2.1 i = μ.1 i) ∧ lr_Ra μ2.1 57 g) pm_NX := by
  refine pm_CT_of (lo := [some (.ref 78), some (.ref 22)]) (by decide +kernel) rfl rfl (by intro v hv; simp at hv; rcases hv with rfl | rfl <;> rfl) (Nat.le_of_ble_eq_true rfl) rfl ?_
  refine pm_bl [(.aload_n 0, 1, 0, 0, 0), (.aload_n 1, 1, 1, 0, 0), (.getfield 9, 3, 0, 0, 0), (.putfield 9, 3, 0, 0, 0), (.aload_n 1, 1, 1, 0, 0), (.getfield 15, 3, 0, 1, 0), (.aload_n 0, 1, 0, 0, 0), (.getfield 15, 3, 0, 1, 0)] (pc1 := 16) (lo1 := [some (.ref 78), some (.ref 22)]) (st1 := [.ref 79, .ref 23]) (μ1 := pm_set μ 78 0 (μ.1 22 0)) (vc := True) rfl (by decide +kernel) rfl trivial ?_
  refine pm_callSN2 mi_X9_copyRow (ix := 25) (host := RX9) (kc2 := 0) (ks2 := 0) (As := [.ref 23, .ref 79]) (rest := []) (c_X9_copyRow (a := 23) (b := 79) (n := 20) (pm_set μ 78 0 (μ.1 22 0)) rfl rfl (by decide)) cal_X9_copyRow (by decide +kernel) (by decide +kernel) (by decide +kernel) rfl rfl (Nat.le_of_ble_eq_true rfl) (by decide) (by decide) ?_
  rintro _ μ1 ⟨rfl, e1⟩
  show pm_V _ _ _ _ 19 _ [] _
  refine pm_bl [(.aload_n 1, 1, 1, 0, 0), (.getfield 19, 3, 0, 2, 0), (.aload_n 0, 1, 0, 0, 0), (.getfield 19, 3, 0, 2, 0)] (pc1 := 27) (lo1 := [some (.ref 78), some (.ref 22)]) (st1 := [.ref 80, .ref 24]) (μ1 := μ1) (vc := True) rfl (by decide +kernel) rfl trivial ?_
  refine pm_callSN2 mi_X9_copyRow (ix := 25) (host := RX9) (kc2 := 0) (ks2 := 0) (As := [.ref 24, .ref 80]) (rest := []) (c_X9_copyRow (a := 24) (b := 80) (n := 20) μ1 rfl rfl (by decide)) cal_X9_copyRow (by decide +kernel) (by decide +kernel) (by decide +kernel) rfl rfl (Nat.le_of_ble_eq_true rfl) (by decide) (by decide) ?_
  rintro _ μ2 ⟨rfl, e2⟩
  show pm_V _ _ _ _ 30 _ [] _
  refine pm_bl [(.aload_n 1, 1, 1, 0, 0), (.getfield 22, 3, 0, 3, 0), (.aload_n 0, 1, 0, 0, 0), (.getfield 22, 3, 0, 3, 0)] (pc1 := 38) (lo1 := [some (.ref 78), some (.ref 22)]) (st1 := [.ref 81, .ref 25]) (μ1 := μ2) (vc := True) rfl (by decide +kernel) rfl trivial ?_
  refine pm_callSN2 mi_X9_copyRow (ix := 25) (host := RX9) (kc2 := 0) (ks2 := 0) (As := [.ref 25, .ref 81]) (rest := []) (c_X9_copyRow (a := 25) (b := 81) (n := 20) μ2 rfl rfl (by decide)) cal_X9_copyRow (by decide +kernel) (by decide +kernel) (by decide +kernel) rfl rfl (Nat.le_of_ble_eq_true rfl) (by decide) (by decide) ?_
  rintro _ μ3 ⟨rfl, e3⟩
  show pm_V _ _ _ _ 41 _ [] _
  exact pm_vret rfl (by decide) (by decide) (by decide +kernel) (by
    subst e1; subst e2; subst e3
    refine ⟨rfl, rfl, fun i hi => by rw [pm_row_off (by omega), pm_row_off (by omega), pm_row_off (by omega), pm_set_off (by omega)], lr_Ra.mv (b := 1) (b2 := 57) hX hn (by simp only [Nat.reduceAdd]; rw [pm_row_off (by decide), pm_row_off (by decide), pm_row_off (by decide), pm_set_hit]) (fun k i h1 h2 h3 => ?_) (fun _ _ _ => rfl)⟩
    rcases (show k = 22 ∨ k = 23 ∨ k = 24 by omega) with rfl | rfl | rfl
    · simp only [Nat.reduceAdd]; rw [pm_row_off (by decide), pm_row_off (by decide), pm_row_at]; unfold va_cpy; rw [if_pos (by omega), pm_set_off (by decide), show 0 + (i - 0) = i from by omega]
    · simp only [Nat.reduceAdd]; rw [pm_row_off (by decide), pm_row_at]; unfold va_cpy; rw [if_pos (by omega), pm_row_off (by decide), pm_set_off (by decide), show 0 + (i - 0) = i from by omega]
    · simp only [Nat.reduceAdd]; rw [pm_row_at]; unfold va_cpy; rw [if_pos (by omega), pm_row_off (by decide), pm_row_off (by decide), pm_set_off (by decide), show 0 + (i - 0) = i from by omega])
set_option maxHeartbeats 4000000 in
set_option maxRecDepth 100000 in
theorem c_X4_copyFrom_57_1 {g : Nat → Int32} (μ : pm_Mm) (hX : lr_Rl μ.1 1 g) (hn : lr_n g 289 ≤ 30) : pm_CT mi_X4_copyFrom [.ref 82, .ref 26] μ (fun v μ2 => v = none ∧ μ2.2 = μ.2 ∧ (∀ i, (i < 82 ∨ 94 < i) → μ2.1 i = μ.1 i) ∧ lr_Rl μ2.1 57 g) pm_NX := by
  refine pm_CT_of (lo := [some (.ref 82), some (.ref 26)]) (by decide +kernel) rfl rfl (by intro v hv; simp at hv; rcases hv with rfl | rfl <;> rfl) (Nat.le_of_ble_eq_true rfl) rfl ?_
  refine pm_bl [(.aload_n 0, 1, 0, 0, 0), (.aload_n 1, 1, 1, 0, 0), (.getfield 9, 3, 4, 0, 0), (.putfield 9, 3, 4, 0, 0), (.aload_n 0, 1, 0, 0, 0), (.aload_n 1, 1, 1, 0, 0), (.getfield 15, 3, 4, 1, 0), (.putfield 15, 3, 4, 1, 0), (.aload_n 1, 1, 1, 0, 0), (.getfield 18, 3, 4, 2, 0), (.aload_n 0, 1, 0, 0, 0), (.getfield 18, 3, 4, 2, 0)] (pc1 := 24) (lo1 := [some (.ref 82), some (.ref 26)]) (st1 := [.ref 83, .ref 27]) (μ1 := pm_set (pm_set μ 82 0 (μ.1 26 0)) 82 1 ((pm_set μ 82 0 (μ.1 26 0)).1 26 1)) (vc := True) rfl (by decide +kernel) rfl trivial ?_
  rw [show (pm_set μ 82 0 (μ.1 26 0)).1 26 1 = μ.1 26 1 from by simp [pm_set]]
  refine pm_callSN2 mi_X9_copyRow (ix := 55) (host := RX9) (kc2 := 0) (ks2 := 0) (As := [.ref 27, .ref 83]) (rest := []) (c_X9_copyRow (a := 27) (b := 83) (n := 30) (pm_set (pm_set μ 82 0 (μ.1 26 0)) 82 1 (μ.1 26 1)) rfl rfl (by decide)) cal_X9_copyRow (by decide +kernel) (by decide +kernel) (by decide +kernel) rfl rfl (Nat.le_of_ble_eq_true rfl) (by decide) (by decide) ?_
  rintro _ μ1 ⟨rfl, e1⟩
  show pm_V _ _ _ _ 27 _ [] _
  refine pm_bl [(.aload_n 1, 1, 1, 0, 0), (.getfield 22, 3, 4, 3, 0), (.aload_n 0, 1, 0, 0, 0), (.getfield 22, 3, 4, 3, 0)] (pc1 := 35) (lo1 := [some (.ref 82), some (.ref 26)]) (st1 := [.ref 84, .ref 28]) (μ1 := μ1) (vc := True) rfl (by decide +kernel) rfl trivial ?_
  refine pm_callSN2 mi_X9_copyRow (ix := 55) (host := RX9) (kc2 := 0) (ks2 := 0) (As := [.ref 28, .ref 84]) (rest := []) (c_X9_copyRow (a := 28) (b := 84) (n := 30) μ1 rfl rfl (by decide)) cal_X9_copyRow (by decide +kernel) (by decide +kernel) (by decide +kernel) rfl rfl (Nat.le_of_ble_eq_true rfl) (by decide) (by decide) ?_
  rintro _ μ2 ⟨rfl, e2⟩
  show pm_V _ _ _ _ 38 _ [] _
  refine pm_bl [(.aload_n 1, 1, 1, 0, 0), (.getfield 25, 3, 4, 4, 0), (.aload_n 0, 1, 0, 0, 0), (.getfield 25, 3, 4, 4, 0)] (pc1 := 46) (lo1 := [some (.ref 82), some (.ref 26)]) (st1 := [.ref 85, .ref 29]) (μ1 := μ2) (vc := True) rfl (by decide +kernel) rfl trivial ?_
  refine pm_callSN2 mi_X9_copyRow (ix := 55) (host := RX9) (kc2 := 0) (ks2 := 0) (As := [.ref 29, .ref 85]) (rest := []) (c_X9_copyRow (a := 29) (b := 85) (n := 30) μ2 rfl rfl (by decide)) cal_X9_copyRow (by decide +kernel) (by decide +kernel) (by decide +kernel) rfl rfl (Nat.le_of_ble_eq_true rfl) (by decide) (by decide) ?_
  rintro _ μ3 ⟨rfl, e3⟩
  show pm_V _ _ _ _ 49 _ [] _
  refine pm_bl [(.aload_n 1, 1, 1, 0, 0), (.getfield 28, 3, 4, 5, 0), (.aload_n 0, 1, 0, 0, 0), (.getfield 28, 3, 4, 5, 0)] (pc1 := 57) (lo1 := [some (.ref 82), some (.ref 26)]) (st1 := [.ref 86, .ref 30]) (μ1 := μ3) (vc := True) rfl (by decide +kernel) rfl trivial ?_
  refine pm_callSN2 mi_X9_copyRow (ix := 55) (host := RX9) (kc2 := 0) (ks2 := 0) (As := [.ref 30, .ref 86]) (rest := []) (c_X9_copyRow (a := 30) (b := 86) (n := 30) μ3 rfl rfl (by decide)) cal_X9_copyRow (by decide +kernel) (by decide +kernel) (by decide +kernel) rfl rfl (Nat.le_of_ble_eq_true rfl) (by decide) (by decide) ?_
  rintro _ μ4 ⟨rfl, e4⟩
  show pm_V _ _ _ _ 60 _ [] _
  refine pm_bl [(.aload_n 1, 1, 1, 0, 0), (.getfield 31, 3, 4, 6, 0), (.aload_n 0, 1, 0, 0, 0), (.getfield 31, 3, 4, 6, 0)] (pc1 := 68) (lo1 := [some (.ref 82), some (.ref 26)]) (st1 := [.ref 87, .ref 31]) (μ1 := μ4) (vc := True) rfl (by decide +kernel) rfl trivial ?_
  refine pm_callSN2 mi_X9_copyRow (ix := 55) (host := RX9) (kc2 := 0) (ks2 := 0) (As := [.ref 31, .ref 87]) (rest := []) (c_X9_copyRow (a := 31) (b := 87) (n := 30) μ4 rfl rfl (by decide)) cal_X9_copyRow (by decide +kernel) (by decide +kernel) (by decide +kernel) rfl rfl (Nat.le_of_ble_eq_true rfl) (by decide) (by decide) ?_
  rintro _ μ5 ⟨rfl, e5⟩
  show pm_V _ _ _ _ 71 _ [] _
  refine pm_bl [(.aload_n 1, 1, 1, 0, 0), (.getfield 34, 3, 4, 7, 0), (.aload_n 0, 1, 0, 0, 0), (.getfield 34, 3, 4, 7, 0)] (pc1 := 79) (lo1 := [some (.ref 82), some (.ref 26)]) (st1 := [.ref 88, .ref 32]) (μ1 := μ5) (vc := True) rfl (by decide +kernel) rfl trivial ?_
  refine pm_callSN2 mi_X9_copyRow (ix := 55) (host := RX9) (kc2 := 0) (ks2 := 0) (As := [.ref 32, .ref 88]) (rest := []) (c_X9_copyRow (a := 32) (b := 88) (n := 30) μ5 rfl rfl (by decide)) cal_X9_copyRow (by decide +kernel) (by decide +kernel) (by decide +kernel) rfl rfl (Nat.le_of_ble_eq_true rfl) (by decide) (by decide) ?_
  rintro _ μ6 ⟨rfl, e6⟩
  show pm_V _ _ _ _ 82 _ [] _
  refine pm_bl [(.aload_n 1, 1, 1, 0, 0), (.getfield 37, 3, 4, 8, 0), (.aload_n 0, 1, 0, 0, 0), (.getfield 37, 3, 4, 8, 0)] (pc1 := 90) (lo1 := [some (.ref 82), some (.ref 26)]) (st1 := [.ref 89, .ref 33]) (μ1 := μ6) (vc := True) rfl (by decide +kernel) rfl trivial ?_
  refine pm_callSN2 mi_X9_copyRow (ix := 55) (host := RX9) (kc2 := 0) (ks2 := 0) (As := [.ref 33, .ref 89]) (rest := []) (c_X9_copyRow (a := 33) (b := 89) (n := 30) μ6 rfl rfl (by decide)) cal_X9_copyRow (by decide +kernel) (by decide +kernel) (by decide +kernel) rfl rfl (Nat.le_of_ble_eq_true rfl) (by decide) (by decide) ?_
  rintro _ μ7 ⟨rfl, e7⟩
  show pm_V _ _ _ _ 93 _ [] _
  refine pm_bl [(.aload_n 1, 1, 1, 0, 0), (.getfield 40, 3, 4, 9, 0), (.aload_n 0, 1, 0, 0, 0), (.getfield 40, 3, 4, 9, 0)] (pc1 := 101) (lo1 := [some (.ref 82), some (.ref 26)]) (st1 := [.ref 90, .ref 34]) (μ1 := μ7) (vc := True) rfl (by decide +kernel) rfl trivial ?_
  refine pm_callSN2 mi_X9_copyRow (ix := 55) (host := RX9) (kc2 := 0) (ks2 := 0) (As := [.ref 34, .ref 90]) (rest := []) (c_X9_copyRow (a := 34) (b := 90) (n := 30) μ7 rfl rfl (by decide)) cal_X9_copyRow (by decide +kernel) (by decide +kernel) (by decide +kernel) rfl rfl (Nat.le_of_ble_eq_true rfl) (by decide) (by decide) ?_
  rintro _ μ8 ⟨rfl, e8⟩
  show pm_V _ _ _ _ 104 _ [] _
  refine pm_bl [(.aload_n 1, 1, 1, 0, 0), (.getfield 43, 3, 4, 10, 0), (.aload_n 0, 1, 0, 0, 0), (.getfield 43, 3, 4, 10, 0)] (pc1 := 112) (lo1 := [some (.ref 82), some (.ref 26)]) (st1 := [.ref 91, .ref 35]) (μ1 := μ8) (vc := True) rfl (by decide +kernel) rfl trivial ?_
  refine pm_callSN2 mi_X9_copyRow (ix := 55) (host := RX9) (kc2 := 0) (ks2 := 0) (As := [.ref 35, .ref 91]) (rest := []) (c_X9_copyRow (a := 35) (b := 91) (n := 30) μ8 rfl rfl (by decide)) cal_X9_copyRow (by decide +kernel) (by decide +kernel) (by decide +kernel) rfl rfl (Nat.le_of_ble_eq_true rfl) (by decide) (by decide) ?_
  rintro _ μ9 ⟨rfl, e9⟩
  show pm_V _ _ _ _ 115 _ [] _
  refine pm_bl [(.aload_n 1, 1, 1, 0, 0), (.getfield 46, 3, 4, 11, 0), (.aload_n 0, 1, 0, 0, 0), (.getfield 46, 3, 4, 11, 0)] (pc1 := 123) (lo1 := [some (.ref 82), some (.ref 26)]) (st1 := [.ref 92, .ref 36]) (μ1 := μ9) (vc := True) rfl (by decide +kernel) rfl trivial ?_
  refine pm_callSN2 mi_X9_copyRow (ix := 55) (host := RX9) (kc2 := 0) (ks2 := 0) (As := [.ref 36, .ref 92]) (rest := []) (c_X9_copyRow (a := 36) (b := 92) (n := 30) μ9 rfl rfl (by decide)) cal_X9_copyRow (by decide +kernel) (by decide +kernel) (by decide +kernel) rfl rfl (Nat.le_of_ble_eq_true rfl) (by decide) (by decide) ?_
  rintro _ μ10 ⟨rfl, e10⟩
  show pm_V _ _ _ _ 126 _ [] _
  refine pm_bl [(.aload_n 1, 1, 1, 0, 0), (.getfield 49, 3, 4, 12, 0), (.aload_n 0, 1, 0, 0, 0), (.getfield 49, 3, 4, 12, 0)] (pc1 := 134) (lo1 := [some (.ref 82), some (.ref 26)]) (st1 := [.ref 93, .ref 37]) (μ1 := μ10) (vc := True) rfl (by decide +kernel) rfl trivial ?_
  refine pm_callSN2 mi_X9_copyRow (ix := 55) (host := RX9) (kc2 := 0) (ks2 := 0) (As := [.ref 37, .ref 93]) (rest := []) (c_X9_copyRow (a := 37) (b := 93) (n := 30) μ10 rfl rfl (by decide)) cal_X9_copyRow (by decide +kernel) (by decide +kernel) (by decide +kernel) rfl rfl (Nat.le_of_ble_eq_true rfl) (by decide) (by decide) ?_
  rintro _ μ11 ⟨rfl, e11⟩
  show pm_V _ _ _ _ 137 _ [] _
  refine pm_bl [(.aload_n 1, 1, 1, 0, 0), (.getfield 52, 3, 4, 13, 0), (.aload_n 0, 1, 0, 0, 0), (.getfield 52, 3, 4, 13, 0)] (pc1 := 145) (lo1 := [some (.ref 82), some (.ref 26)]) (st1 := [.ref 94, .ref 38]) (μ1 := μ11) (vc := True) rfl (by decide +kernel) rfl trivial ?_
  refine pm_callSN2 mi_X9_copyRow (ix := 55) (host := RX9) (kc2 := 0) (ks2 := 0) (As := [.ref 38, .ref 94]) (rest := []) (c_X9_copyRow (a := 38) (b := 94) (n := 30) μ11 rfl rfl (by decide)) cal_X9_copyRow (by decide +kernel) (by decide +kernel) (by decide +kernel) rfl rfl (Nat.le_of_ble_eq_true rfl) (by decide) (by decide) ?_
  rintro _ μ12 ⟨rfl, e12⟩
  show pm_V _ _ _ _ 148 _ [] _
  exact pm_vret rfl (by decide) (by decide) (by decide +kernel) (by
    subst e1; subst e2; subst e3; subst e4; subst e5; subst e6; subst e7; subst e8; subst e9; subst e10; subst e11; subst e12
    refine ⟨rfl, rfl, fun i hi => by rw [pm_row_off (by omega), pm_row_off (by omega), pm_row_off (by omega), pm_row_off (by omega), pm_row_off (by omega), pm_row_off (by omega), pm_row_off (by omega), pm_row_off (by omega), pm_row_off (by omega), pm_row_off (by omega), pm_row_off (by omega), pm_row_off (by omega), pm_set_off (by omega), pm_set_off (by omega)], lr_Rl.mv (b := 1) (b2 := 57) hX hn (by simp only [Nat.reduceAdd]; rw [pm_row_off (by decide), pm_row_off (by decide), pm_row_off (by decide), pm_row_off (by decide), pm_row_off (by decide), pm_row_off (by decide), pm_row_off (by decide), pm_row_off (by decide), pm_row_off (by decide), pm_row_off (by decide), pm_row_off (by decide), pm_row_off (by decide), pm_set_miss (Or.inr (by decide)), pm_set_hit]) (by simp only [Nat.reduceAdd]; rw [pm_row_off (by decide), pm_row_off (by decide), pm_row_off (by decide), pm_row_off (by decide), pm_row_off (by decide), pm_row_off (by decide), pm_row_off (by decide), pm_row_off (by decide), pm_row_off (by decide), pm_row_off (by decide), pm_row_off (by decide), pm_row_off (by decide), pm_set_hit]) (fun k i h1 h2 h3 => ?_) (fun _ _ _ => rfl) rfl⟩
    rcases (show k = 26 ∨ k = 27 ∨ k = 28 ∨ k = 29 ∨ k = 30 ∨ k = 31 ∨ k = 32 ∨ k = 33 ∨ k = 34 ∨ k = 35 ∨ k = 36 ∨ k = 37 by omega) with rfl | rfl | rfl | rfl | rfl | rfl | rfl | rfl | rfl | rfl | rfl | rfl
    · simp only [Nat.reduceAdd]; rw [pm_row_off (by decide), pm_row_off (by decide), pm_row_off (by decide), pm_row_off (by decide), pm_row_off (by decide), pm_row_off (by decide), pm_row_off (by decide), pm_row_off (by decide), pm_row_off (by decide), pm_row_off (by decide), pm_row_off (by decide), pm_row_at]; unfold va_cpy; rw [if_pos (by omega), pm_set_off (by decide), pm_set_off (by decide), show 0 + (i - 0) = i from by omega]
    · simp only [Nat.reduceAdd]; rw [pm_row_off (by decide), pm_row_off (by decide), pm_row_off (by decide), pm_row_off (by decide), pm_row_off (by decide), pm_row_off (by decide), pm_row_off (by decide), pm_row_off (by decide), pm_row_off (by decide), pm_row_off (by decide), pm_row_at]; unfold va_cpy; rw [if_pos (by omega), pm_row_off (by decide), pm_set_off (by decide), pm_set_off (by decide), show 0 + (i - 0) = i from by omega]
    · simp only [Nat.reduceAdd]; rw [pm_row_off (by decide), pm_row_off (by decide), pm_row_off (by decide), pm_row_off (by decide), pm_row_off (by decide), pm_row_off (by decide), pm_row_off (by decide), pm_row_off (by decide), pm_row_off (by decide), pm_row_at]; unfold va_cpy; rw [if_pos (by omega), pm_row_off (by decide), pm_row_off (by decide), pm_set_off (by decide), pm_set_off (by decide), show 0 + (i - 0) = i from by omega]
    · simp only [Nat.reduceAdd]; rw [pm_row_off (by decide), pm_row_off (by decide), pm_row_off (by decide), pm_row_off (by decide), pm_row_off (by decide), pm_row_off (by decide), pm_row_off (by decide), pm_row_off (by decide), pm_row_at]; unfold va_cpy; rw [if_pos (by omega), pm_row_off (by decide), pm_row_off (by decide), pm_row_off (by decide), pm_set_off (by decide), pm_set_off (by decide), show 0 + (i - 0) = i from by omega]
    · simp only [Nat.reduceAdd]; rw [pm_row_off (by decide), pm_row_off (by decide), pm_row_off (by decide), pm_row_off (by decide), pm_row_off (by decide), pm_row_off (by decide), pm_row_off (by decide), pm_row_at]; unfold va_cpy; rw [if_pos (by omega), pm_row_off (by decide), pm_row_off (by decide), pm_row_off (by decide), pm_row_off (by decide), pm_set_off (by decide), pm_set_off (by decide), show 0 + (i - 0) = i from by omega]
    · simp only [Nat.reduceAdd]; rw [pm_row_off (by decide), pm_row_off (by decide), pm_row_off (by decide), pm_row_off (by decide), pm_row_off (by decide), pm_row_off (by decide), pm_row_at]; unfold va_cpy; rw [if_pos (by omega), pm_row_off (by decide), pm_row_off (by decide), pm_row_off (by decide), pm_row_off (by decide), pm_row_off (by decide), pm_set_off (by decide), pm_set_off (by decide), show 0 + (i - 0) = i from by omega]
    · simp only [Nat.reduceAdd]; rw [pm_row_off (by decide), pm_row_off (by decide), pm_row_off (by decide), pm_row_off (by decide), pm_row_off (by decide), pm_row_at]; unfold va_cpy; rw [if_pos (by omega), pm_row_off (by decide), pm_row_off (by decide), pm_row_off (by decide), pm_row_off (by decide), pm_row_off (by decide), pm_row_off (by decide), pm_set_off (by decide), pm_set_off (by decide), show 0 + (i - 0) = i from by omega]
    · simp only [Nat.reduceAdd]; rw [pm_row_off (by decide), pm_row_off (by decide), pm_row_off (by decide), pm_row_off (by decide), pm_row_at]; unfold va_cpy; rw [if_pos (by omega), pm_row_off (by decide), pm_row_off (by decide), pm_row_off (by decide), pm_row_off (by decide), pm_row_off (by decide), pm_row_off (by decide), pm_row_off (by decide), pm_set_off (by decide), pm_set_off (by decide), show 0 + (i - 0) = i from by omega]
    · simp only [Nat.reduceAdd]; rw [pm_row_off (by decide), pm_row_off (by decide), pm_row_off (by decide), pm_row_at]; unfold va_cpy; rw [if_pos (by omega), pm_row_off (by decide), pm_row_off (by decide), pm_row_off (by decide), pm_row_off (by decide), pm_row_off (by decide), pm_row_off (by decide), pm_row_off (by decide), pm_row_off (by decide), pm_set_off (by decide), pm_set_off (by decide), show 0 + (i - 0) = i from by omega]
    · simp only [Nat.reduceAdd]; rw [pm_row_off (by decide), pm_row_off (by decide), pm_row_at]; unfold va_cpy; rw [if_pos (by omega), pm_row_off (by decide), pm_row_off (by decide), pm_row_off (by decide), pm_row_off (by decide), pm_row_off (by decide), pm_row_off (by decide), pm_row_off (by decide), pm_row_off (by decide), pm_row_off (by decide), pm_set_off (by decide), pm_set_off (by decide), show 0 + (i - 0) = i from by omega]
    · simp only [Nat.reduceAdd]; rw [pm_row_off (by decide), pm_row_at]; unfold va_cpy; rw [if_pos (by omega), pm_row_off (by decide), pm_row_off (by decide), pm_row_off (by decide), pm_row_off (by decide), pm_row_off (by decide), pm_row_off (by decide), pm_row_off (by decide), pm_row_off (by decide), pm_row_off (by decide), pm_row_off (by decide), pm_set_off (by decide), pm_set_off (by decide), show 0 + (i - 0) = i from by omega]
    · simp only [Nat.reduceAdd]; rw [pm_row_at]; unfold va_cpy; rw [if_pos (by omega), pm_row_off (by decide), pm_row_off (by decide), pm_row_off (by decide), pm_row_off (by decide), pm_row_off (by decide), pm_row_off (by decide), pm_row_off (by decide), pm_row_off (by decide), pm_row_off (by decide), pm_row_off (by decide), pm_row_off (by decide), pm_set_off (by decide), pm_set_off (by decide), show 0 + (i - 0) = i from by omega])
set_option maxHeartbeats 4000000 in
set_option maxRecDepth 100000 in
theorem c_X5_copyFrom_57_1 {g : Nat → Int32} (μ : pm_Mm) (hR : lr_Rel μ.1 1 g) (hB : lr_B g) : pm_CT mi_X5_copyFrom [.ref 57, .ref 1] μ (fun v μ2 => v = none ∧ μ2.2 = μ.2 ∧ (∀ i, (i < 57 ∨ 95 < i) → μ2.1 i = μ.1 i) ∧ lr_Rel μ2.1 57 g) pm_NX := by
  refine pm_CT_of (lo := [some (.ref 57), some (.ref 1)]) (by decide +kernel) rfl rfl (by intro v hv; simp at hv; rcases hv with rfl | rfl <;> rfl) (Nat.le_of_ble_eq_true rfl) rfl ?_
  obtain ⟨hm1, hm3, hm2, hm4, hm5, hm6⟩ := id hB
  refine pm_bl [(.aload_n 0, 1, 0, 0, 0), (.getfield 12, 3, 5, 0, 0), (.aload_n 1, 1, 1, 0, 0), (.getfield 12, 3, 5, 0, 0)] (pc1 := 8) (lo1 := [some (.ref 57), some (.ref 1)]) (st1 := [.ref 2, .ref 58]) (μ1 := μ) (vc := True) rfl (by decide +kernel) rfl trivial ?_
  refine pm_callV2 mi_X3_copyFrom (ix := 61) (b := 58) (ci := 3) (kc2 := 0) (ks2 := 0) (As := [.ref 2]) (rest := []) (c_X3_copyFrom_57_1 μ hR.2.1 hm1) cal_X3_copyFrom lk5_61 (by decide +kernel) rfl (by decide +kernel) rfl rfl rfl rfl (Nat.le_of_ble_eq_true rfl) (by decide) (by decide) (fun _ _ h9 => h9.elim) ?_
  rintro _ μ1 ⟨rfl, x1, f1, r1⟩
  show pm_V _ _ _ _ 11 _ [] _
  refine pm_bl [(.aload_n 0, 1, 0, 0, 0), (.getfield 21, 3, 5, 1, 0), (.aload_n 1, 1, 1, 0, 0), (.getfield 21, 3, 5, 1, 0)] (pc1 := 19) (lo1 := [some (.ref 57), some (.ref 1)]) (st1 := [.ref 5, .ref 61]) (μ1 := μ1) (vc := True) rfl (by decide +kernel) rfl trivial ?_
  refine pm_callV2 mi_X6_copyFrom (ix := 65) (b := 61) (ci := 6) (kc2 := 0) (ks2 := 0) (As := [.ref 5]) (rest := []) (c_X6_copyFrom_57_1 μ1 (lr_Rp.st (b := 1) hR.2.2.1 hm3 (fun k h1 h2 => by rw [f1 _ (by omega)]) (fun _ _ _ => rfl)) hm3) cal_X6_copyFrom lk5_65 (by decide +kernel) rfl (by decide +kernel) rfl rfl rfl rfl (Nat.le_of_ble_eq_true rfl) (by decide) (by decide) (fun _ _ h9 => h9.elim) ?_
  rintro _ μ2 ⟨rfl, x2, f2, r2⟩
  show pm_V _ _ _ _ 22 _ [] _
  refine pm_bl [(.aload_n 0, 1, 0, 0, 0), (.getfield 28, 3, 5, 2, 0), (.aload_n 1, 1, 1, 0, 0), (.getfield 28, 3, 5, 2, 0)] (pc1 := 30) (lo1 := [some (.ref 57), some (.ref 1)]) (st1 := [.ref 10, .ref 66]) (μ1 := μ2) (vc := True) rfl (by decide +kernel) rfl trivial ?_
  refine pm_callV2 mi_X8_copyFrom (ix := 68) (b := 66) (ci := 8) (kc2 := 0) (ks2 := 0) (As := [.ref 10]) (rest := []) (c_X8_copyFrom_57_1 μ2 (lr_Rw.st (b := 1) hR.2.2.2.1 hm2 (fun k h1 h2 => by rw [f2 _ (by omega), f1 _ (by omega)]) (fun _ _ _ => rfl)) hm2) cal_X8_copyFrom lk5_68 (by decide +kernel) rfl (by decide +kernel) rfl rfl rfl rfl (Nat.le_of_ble_eq_true rfl) (by decide) (by decide) (fun _ _ h9 => h9.elim) ?_
  rintro _ μ3 ⟨rfl, x3, f3, r3⟩
  show pm_V _ _ _ _ 33 _ [] _
  refine pm_bl [(.aload_n 0, 1, 0, 0, 0), (.getfield 35, 3, 5, 3, 0), (.aload_n 1, 1, 1, 0, 0), (.getfield 35, 3, 5, 3, 0)] (pc1 := 41) (lo1 := [some (.ref 57), some (.ref 1)]) (st1 := [.ref 16, .ref 72]) (μ1 := μ3) (vc := True) rfl (by decide +kernel) rfl trivial ?_
  refine pm_callV2 mi_X7_copyFrom (ix := 71) (b := 72) (ci := 7) (kc2 := 0) (ks2 := 0) (As := [.ref 16]) (rest := []) (c_X7_copyFrom_57_1 μ3 (lr_Rr.st (b := 1) hR.2.2.2.2.1 hm4 (fun k h1 h2 => by rw [f3 _ (by omega), f2 _ (by omega), f1 _ (by omega)]) (fun _ _ _ => rfl)) hm4) cal_X7_copyFrom lk5_71 (by decide +kernel) rfl (by decide +kernel) rfl rfl rfl rfl (Nat.le_of_ble_eq_true rfl) (by decide) (by decide) (fun _ _ h9 => h9.elim) ?_
  rintro _ μ4 ⟨rfl, x4, f4, r4⟩
  show pm_V _ _ _ _ 44 _ [] _
  refine pm_bl [(.aload_n 0, 1, 0, 0, 0), (.getfield 42, 3, 5, 4, 0), (.aload_n 1, 1, 1, 0, 0), (.getfield 42, 3, 5, 4, 0)] (pc1 := 52) (lo1 := [some (.ref 57), some (.ref 1)]) (st1 := [.ref 22, .ref 78]) (μ1 := μ4) (vc := True) rfl (by decide +kernel) rfl trivial ?_
  refine pm_callV2 mi_X0_copyFrom (ix := 74) (b := 78) (ci := 0) (kc2 := 0) (ks2 := 0) (As := [.ref 22]) (rest := []) (c_X0_copyFrom_57_1 μ4 (lr_Ra.st (b := 1) hR.2.2.2.2.2.1 hm5 (fun k h1 h2 => by rw [f4 _ (by omega), f3 _ (by omega), f2 _ (by omega), f1 _ (by omega)]) (fun _ _ _ => rfl)) hm5) cal_X0_copyFrom lk5_74 (by decide +kernel) rfl (by decide +kernel) rfl rfl rfl rfl (Nat.le_of_ble_eq_true rfl) (by decide) (by decide) (fun _ _ h9 => h9.elim) ?_
  rintro _ μ5 ⟨rfl, x5, f5, r5⟩
  show pm_V _ _ _ _ 55 _ [] _
  refine pm_bl [(.aload_n 0, 1, 0, 0, 0), (.getfield 49, 3, 5, 5, 0), (.aload_n 1, 1, 1, 0, 0), (.getfield 49, 3, 5, 5, 0)] (pc1 := 63) (lo1 := [some (.ref 57), some (.ref 1)]) (st1 := [.ref 26, .ref 82]) (μ1 := μ5) (vc := True) rfl (by decide +kernel) rfl trivial ?_
  refine pm_callV2 mi_X4_copyFrom (ix := 77) (b := 82) (ci := 4) (kc2 := 0) (ks2 := 0) (As := [.ref 26]) (rest := []) (c_X4_copyFrom_57_1 μ5 (lr_Rl.st (b := 1) hR.2.2.2.2.2.2 hm6 (fun k h1 h2 => by rw [f5 _ (by omega), f4 _ (by omega), f3 _ (by omega), f2 _ (by omega), f1 _ (by omega)]) rfl (fun _ _ _ => rfl)) hm6) cal_X4_copyFrom lk5_77 (by decide +kernel) rfl (by decide +kernel) rfl rfl rfl rfl (Nat.le_of_ble_eq_true rfl) (by decide) (by decide) (fun _ _ h9 => h9.elim) ?_
  rintro _ μ6 ⟨rfl, x6, f6, r6⟩
  show pm_V _ _ _ _ 66 _ [] _
  refine pm_bl [(.aload_n 0, 1, 0, 0, 0), (.aload_n 1, 1, 1, 0, 0), (.getfield 53, 3, 5, 6, 0), (.putfield 53, 3, 5, 6, 0)] (pc1 := 74) (lo1 := [some (.ref 57), some (.ref 1)]) (st1 := []) (μ1 := pm_set μ6 57 6 (μ6.1 1 6)) (vc := True) rfl (by decide +kernel) rfl trivial ?_
  exact pm_vret rfl (by decide) (by decide) (by decide +kernel) (⟨rfl, (x6.trans (x5.trans (x4.trans (x3.trans (x2.trans x1))))), fun i hi => by rw [pm_set_off (by omega), f6 _ (by omega), f5 _ (by omega), f4 _ (by omega), f3 _ (by omega), f2 _ (by omega), f1 _ (by omega)], by rw [pm_set_hit, f6 _ (by omega), f5 _ (by omega), f4 _ (by omega), f3 _ (by omega), f2 _ (by omega), f1 _ (by omega)]; exact hR.1, lr_Rh.st (b := 57) r1 hm1 (fun k h1 h2 => by rw [pm_set_off (by omega), f6 _ (by omega), f5 _ (by omega), f4 _ (by omega), f3 _ (by omega), f2 _ (by omega)]) (fun _ _ _ => rfl), lr_Rp.st (b := 57) r2 hm3 (fun k h1 h2 => by rw [pm_set_off (by omega), f6 _ (by omega), f5 _ (by omega), f4 _ (by omega), f3 _ (by omega)]) (fun _ _ _ => rfl), lr_Rw.st (b := 57) r3 hm2 (fun k h1 h2 => by rw [pm_set_off (by omega), f6 _ (by omega), f5 _ (by omega), f4 _ (by omega)]) (fun _ _ _ => rfl), lr_Rr.st (b := 57) r4 hm4 (fun k h1 h2 => by rw [pm_set_off (by omega), f6 _ (by omega), f5 _ (by omega)]) (fun _ _ _ => rfl), lr_Ra.st (b := 57) r5 hm5 (fun k h1 h2 => by rw [pm_set_off (by omega), f6 _ (by omega)]) (fun _ _ _ => rfl), lr_Rl.st (b := 57) r6 hm6 (fun k h1 h2 => by rw [pm_set_off (by omega)]) rfl (fun _ _ _ => rfl)⟩)
set_option maxHeartbeats 4000000 in
set_option maxRecDepth 100000 in
theorem c_X3_copyFrom_1_57 {g : Nat → Int32} (μ : pm_Mm) (hX : lr_Rh μ.1 57 g) (hn : lr_n g 2 ≤ 16) : pm_CT mi_X3_copyFrom [.ref 2, .ref 58] μ (fun v μ2 => v = none ∧ μ2.2 = μ.2 ∧ (∀ i, (i < 2 ∨ 4 < i) → μ2.1 i = μ.1 i) ∧ lr_Rh μ2.1 1 g) pm_NX := by
  refine pm_CT_of (lo := [some (.ref 2), some (.ref 58)]) (by decide +kernel) rfl rfl (by intro v hv; simp at hv; rcases hv with rfl | rfl <;> rfl) (Nat.le_of_ble_eq_true rfl) rfl ?_
  refine pm_bl [(.aload_n 0, 1, 0, 0, 0), (.aload_n 1, 1, 1, 0, 0), (.getfield 9, 3, 3, 0, 0), (.putfield 9, 3, 3, 0, 0), (.aload_n 1, 1, 1, 0, 0), (.getfield 15, 3, 3, 1, 0), (.aload_n 0, 1, 0, 0, 0), (.getfield 15, 3, 3, 1, 0)] (pc1 := 16) (lo1 := [some (.ref 2), some (.ref 58)]) (st1 := [.ref 3, .ref 59]) (μ1 := pm_set μ 2 0 (μ.1 58 0)) (vc := True) rfl (by decide +kernel) rfl trivial ?_
  refine pm_callSN2 mi_X9_copyRow (ix := 22) (host := RX9) (kc2 := 0) (ks2 := 0) (As := [.ref 59, .ref 3]) (rest := []) (c_X9_copyRow (a := 59) (b := 3) (n := 16) (pm_set μ 2 0 (μ.1 58 0)) rfl rfl (by decide)) cal_X9_copyRow (by decide +kernel) (by decide +kernel) (by decide +kernel) rfl rfl (Nat.le_of_ble_eq_true rfl) (by decide) (by decide) ?_
  rintro _ μ1 ⟨rfl, e1⟩
  show pm_V _ _ _ _ 19 _ [] _
  refine pm_bl [(.aload_n 1, 1, 1, 0, 0), (.getfield 19, 3, 3, 2, 0), (.aload_n 0, 1, 0, 0, 0), (.getfield 19, 3, 3, 2, 0)] (pc1 := 27) (lo1 := [some (.ref 2), some (.ref 58)]) (st1 := [.ref 4, .ref 60]) (μ1 := μ1) (vc := True) rfl (by decide +kernel) rfl trivial ?_
  refine pm_callSN2 mi_X9_copyRow (ix := 22) (host := RX9) (kc2 := 0) (ks2 := 0) (As := [.ref 60, .ref 4]) (rest := []) (c_X9_copyRow (a := 60) (b := 4) (n := 16) μ1 rfl rfl (by decide)) cal_X9_copyRow (by decide +kernel) (by decide +kernel) (by decide +kernel) rfl rfl (Nat.le_of_ble_eq_true rfl) (by decide) (by decide) ?_
  rintro _ μ2 ⟨rfl, e2⟩
  show pm_V _ _ _ _ 30 _ [] _
  exact pm_vret rfl (by decide) (by decide) (by decide +kernel) (by
    subst e1; subst e2
    refine ⟨rfl, rfl, fun i hi => by rw [pm_row_off (by omega), pm_row_off (by omega), pm_set_off (by omega)], lr_Rh.mv (b := 57) (b2 := 1) hX hn (by simp only [Nat.reduceAdd]; rw [pm_row_off (by decide), pm_row_off (by decide), pm_set_hit]) (fun k i h1 h2 h3 => ?_) (fun _ _ _ => rfl)⟩
    rcases (show k = 2 ∨ k = 3 by omega) with rfl | rfl
    · simp only [Nat.reduceAdd]; rw [pm_row_off (by decide), pm_row_at]; unfold va_cpy; rw [if_pos (by omega), pm_set_off (by decide), show 0 + (i - 0) = i from by omega]
    · simp only [Nat.reduceAdd]; rw [pm_row_at]; unfold va_cpy; rw [if_pos (by omega), pm_row_off (by decide), pm_set_off (by decide), show 0 + (i - 0) = i from by omega])
set_option maxHeartbeats 4000000 in
set_option maxRecDepth 100000 in
theorem c_X6_copyFrom_1_57 {g : Nat → Int32} (μ : pm_Mm) (hX : lr_Rp μ.1 57 g) (hn : lr_n g 35 ≤ 20) : pm_CT mi_X6_copyFrom [.ref 5, .ref 61] μ (fun v μ2 => v = none ∧ μ2.2 = μ.2 ∧ (∀ i, (i < 5 ∨ 9 < i) → μ2.1 i = μ.1 i) ∧ lr_Rp μ2.1 1 g) pm_NX := by
  refine pm_CT_of (lo := [some (.ref 5), some (.ref 61)]) (by decide +kernel) rfl rfl (by intro v hv; simp at hv; rcases hv with rfl | rfl <;> rfl) (Nat.le_of_ble_eq_true rfl) rfl ?_
  refine pm_bl [(.aload_n 0, 1, 0, 0, 0), (.aload_n 1, 1, 1, 0, 0), (.getfield 9, 3, 6, 0, 0), (.putfield 9, 3, 6, 0, 0), (.aload_n 1, 1, 1, 0, 0), (.getfield 15, 3, 6, 1, 0), (.aload_n 0, 1, 0, 0, 0), (.getfield 15, 3, 6, 1, 0)] (pc1 := 16) (lo1 := [some (.ref 5), some (.ref 61)]) (st1 := [.ref 6, .ref 62]) (μ1 := pm_set μ 5 0 (μ.1 61 0)) (vc := True) rfl (by decide +kernel) rfl trivial ?_
  refine pm_callSN2 mi_X9_copyRow (ix := 28) (host := RX9) (kc2 := 0) (ks2 := 0) (As := [.ref 62, .ref 6]) (rest := []) (c_X9_copyRow (a := 62) (b := 6) (n := 20) (pm_set μ 5 0 (μ.1 61 0)) rfl rfl (by decide)) cal_X9_copyRow (by decide +kernel) (by decide +kernel) (by decide +kernel) rfl rfl (Nat.le_of_ble_eq_true rfl) (by decide) (by decide) ?_
  rintro _ μ1 ⟨rfl, e1⟩
  show pm_V _ _ _ _ 19 _ [] _
  refine pm_bl [(.aload_n 1, 1, 1, 0, 0), (.getfield 19, 3, 6, 2, 0), (.aload_n 0, 1, 0, 0, 0), (.getfield 19, 3, 6, 2, 0)] (pc1 := 27) (lo1 := [some (.ref 5), some (.ref 61)]) (st1 := [.ref 7, .ref 63]) (μ1 := μ1) (vc := True) rfl (by decide +kernel) rfl trivial ?_
  refine pm_callSN2 mi_X9_copyRow (ix := 28) (host := RX9) (kc2 := 0) (ks2 := 0) (As := [.ref 63, .ref 7]) (rest := []) (c_X9_copyRow (a := 63) (b := 7) (n := 20) μ1 rfl rfl (by decide)) cal_X9_copyRow (by decide +kernel) (by decide +kernel) (by decide +kernel) rfl rfl (Nat.le_of_ble_eq_true rfl) (by decide) (by decide) ?_
  rintro _ μ2 ⟨rfl, e2⟩
  show pm_V _ _ _ _ 30 _ [] _
  refine pm_bl [(.aload_n 1, 1, 1, 0, 0), (.getfield 22, 3, 6, 3, 0), (.aload_n 0, 1, 0, 0, 0), (.getfield 22, 3, 6, 3, 0)] (pc1 := 38) (lo1 := [some (.ref 5), some (.ref 61)]) (st1 := [.ref 8, .ref 64]) (μ1 := μ2) (vc := True) rfl (by decide +kernel) rfl trivial ?_
  refine pm_callSN2 mi_X9_copyRow (ix := 28) (host := RX9) (kc2 := 0) (ks2 := 0) (As := [.ref 64, .ref 8]) (rest := []) (c_X9_copyRow (a := 64) (b := 8) (n := 20) μ2 rfl rfl (by decide)) cal_X9_copyRow (by decide +kernel) (by decide +kernel) (by decide +kernel) rfl rfl (Nat.le_of_ble_eq_true rfl) (by decide) (by decide) ?_
  rintro _ μ3 ⟨rfl, e3⟩
  show pm_V _ _ _ _ 41 _ [] _
  refine pm_bl [(.aload_n 1, 1, 1, 0, 0), (.getfield 25, 3, 6, 4, 0), (.aload_n 0, 1, 0, 0, 0), (.getfield 25, 3, 6, 4, 0)] (pc1 := 49) (lo1 := [some (.ref 5), some (.ref 61)]) (st1 := [.ref 9, .ref 65]) (μ1 := μ3) (vc := True) rfl (by decide +kernel) rfl trivial ?_
  refine pm_callSN2 mi_X9_copyRow (ix := 28) (host := RX9) (kc2 := 0) (ks2 := 0) (As := [.ref 65, .ref 9]) (rest := []) (c_X9_copyRow (a := 65) (b := 9) (n := 20) μ3 rfl rfl (by decide)) cal_X9_copyRow (by decide +kernel) (by decide +kernel) (by decide +kernel) rfl rfl (Nat.le_of_ble_eq_true rfl) (by decide) (by decide) ?_
  rintro _ μ4 ⟨rfl, e4⟩
  show pm_V _ _ _ _ 52 _ [] _
  exact pm_vret rfl (by decide) (by decide) (by decide +kernel) (by
    subst e1; subst e2; subst e3; subst e4
    refine ⟨rfl, rfl, fun i hi => by rw [pm_row_off (by omega), pm_row_off (by omega), pm_row_off (by omega), pm_row_off (by omega), pm_set_off (by omega)], lr_Rp.mv (b := 57) (b2 := 1) hX hn (by simp only [Nat.reduceAdd]; rw [pm_row_off (by decide), pm_row_off (by decide), pm_row_off (by decide), pm_row_off (by decide), pm_set_hit]) (fun k i h1 h2 h3 => ?_) (fun _ _ _ => rfl)⟩
    rcases (show k = 5 ∨ k = 6 ∨ k = 7 ∨ k = 8 by omega) with rfl | rfl | rfl | rfl
    · simp only [Nat.reduceAdd]; rw [pm_row_off (by decide), pm_row_off (by decide), pm_row_off (by decide), pm_row_at]; unfold va_cpy; rw [if_pos (by omega), pm_set_off (by decide), show 0 + (i - 0) = i from by omega]
    · simp only [Nat.reduceAdd]; rw [pm_row_off (by decide), pm_row_off (by decide), pm_row_at]; unfold va_cpy; rw [if_pos (by omega), pm_row_off (by decide), pm_set_off (by decide), show 0 + (i - 0) = i from by omega]
    · simp only [Nat.reduceAdd]; rw [pm_row_off (by decide), pm_row_at]; unfold va_cpy; rw [if_pos (by omega), pm_row_off (by decide), pm_row_off (by decide), pm_set_off (by decide), show 0 + (i - 0) = i from by omega]
    · simp only [Nat.reduceAdd]; rw [pm_row_at]; unfold va_cpy; rw [if_pos (by omega), pm_row_off (by decide), pm_row_off (by decide), pm_row_off (by decide), pm_set_off (by decide), show 0 + (i - 0) = i from by omega])
set_option maxHeartbeats 4000000 in
set_option maxRecDepth 100000 in
theorem c_X8_copyFrom_1_57 {g : Nat → Int32} (μ : pm_Mm) (hX : lr_Rw μ.1 57 g) (hn : lr_n g 116 ≤ 10) : pm_CT mi_X8_copyFrom [.ref 10, .ref 66] μ (fun v μ2 => v = none ∧ μ2.2 = μ.2 ∧ (∀ i, (i < 10 ∨ 15 < i) → μ2.1 i = μ.1 i) ∧ lr_Rw μ2.1 1 g) pm_NX := by
  refine pm_CT_of (lo := [some (.ref 10), some (.ref 66)]) (by decide +kernel) rfl rfl (by intro v hv; simp at hv; rcases hv with rfl | rfl <;> rfl) (Nat.le_of_ble_eq_true rfl) rfl ?_
  refine pm_bl [(.aload_n 0, 1, 0, 0, 0), (.aload_n 1, 1, 1, 0, 0), (.getfield 9, 3, 8, 0, 0), (.putfield 9, 3, 8, 0, 0), (.aload_n 1, 1, 1, 0, 0), (.getfield 15, 3, 8, 1, 0), (.aload_n 0, 1, 0, 0, 0), (.getfield 15, 3, 8, 1, 0)] (pc1 := 16) (lo1 := [some (.ref 10), some (.ref 66)]) (st1 := [.ref 11, .ref 67]) (μ1 := pm_set μ 10 0 (μ.1 66 0)) (vc := True) rfl (by decide +kernel) rfl trivial ?_
  refine pm_callSN2 mi_X9_copyRow (ix := 31) (host := RX9) (kc2 := 0) (ks2 := 0) (As := [.ref 67, .ref 11]) (rest := []) (c_X9_copyRow (a := 67) (b := 11) (n := 10) (pm_set μ 10 0 (μ.1 66 0)) rfl rfl (by decide)) cal_X9_copyRow (by decide +kernel) (by decide +kernel) (by decide +kernel) rfl rfl (Nat.le_of_ble_eq_true rfl) (by decide) (by decide) ?_
  rintro _ μ1 ⟨rfl, e1⟩
  show pm_V _ _ _ _ 19 _ [] _
  refine pm_bl [(.aload_n 1, 1, 1, 0, 0), (.getfield 19, 3, 8, 2, 0), (.aload_n 0, 1, 0, 0, 0), (.getfield 19, 3, 8, 2, 0)] (pc1 := 27) (lo1 := [some (.ref 10), some (.ref 66)]) (st1 := [.ref 12, .ref 68]) (μ1 := μ1) (vc := True) rfl (by decide +kernel) rfl trivial ?_
  refine pm_callSN2 mi_X9_copyRow (ix := 31) (host := RX9) (kc2 := 0) (ks2 := 0) (As := [.ref 68, .ref 12]) (rest := []) (c_X9_copyRow (a := 68) (b := 12) (n := 10) μ1 rfl rfl (by decide)) cal_X9_copyRow (by decide +kernel) (by decide +kernel) (by decide +kernel) rfl rfl (Nat.le_of_ble_eq_true rfl) (by decide) (by decide) ?_
  rintro _ μ2 ⟨rfl, e2⟩
  show pm_V _ _ _ _ 30 _ [] _
  refine pm_bl [(.aload_n 1, 1, 1, 0, 0), (.getfield 22, 3, 8, 3, 0), (.aload_n 0, 1, 0, 0, 0), (.getfield 22, 3, 8, 3, 0)] (pc1 := 38) (lo1 := [some (.ref 10), some (.ref 66)]) (st1 := [.ref 13, .ref 69]) (μ1 := μ2) (vc := True) rfl (by decide +kernel) rfl trivial ?_
  refine pm_callSN2 mi_X9_copyRow (ix := 31) (host := RX9) (kc2 := 0) (ks2 := 0) (As := [.ref 69, .ref 13]) (rest := []) (c_X9_copyRow (a := 69) (b := 13) (n := 10) μ2 rfl rfl (by decide)) cal_X9_copyRow (by decide +kernel) (by decide +kernel) (by decide +kernel) rfl rfl (Nat.le_of_ble_eq_true rfl) (by decide) (by decide) ?_
  rintro _ μ3 ⟨rfl, e3⟩
  show pm_V _ _ _ _ 41 _ [] _
  refine pm_bl [(.aload_n 1, 1, 1, 0, 0), (.getfield 25, 3, 8, 4, 0), (.aload_n 0, 1, 0, 0, 0), (.getfield 25, 3, 8, 4, 0)] (pc1 := 49) (lo1 := [some (.ref 10), some (.ref 66)]) (st1 := [.ref 14, .ref 70]) (μ1 := μ3) (vc := True) rfl (by decide +kernel) rfl trivial ?_
  refine pm_callSN2 mi_X9_copyRow (ix := 31) (host := RX9) (kc2 := 0) (ks2 := 0) (As := [.ref 70, .ref 14]) (rest := []) (c_X9_copyRow (a := 70) (b := 14) (n := 10) μ3 rfl rfl (by decide)) cal_X9_copyRow (by decide +kernel) (by decide +kernel) (by decide +kernel) rfl rfl (Nat.le_of_ble_eq_true rfl) (by decide) (by decide) ?_
  rintro _ μ4 ⟨rfl, e4⟩
  show pm_V _ _ _ _ 52 _ [] _
  refine pm_bl [(.aload_n 1, 1, 1, 0, 0), (.getfield 28, 3, 8, 5, 0), (.aload_n 0, 1, 0, 0, 0), (.getfield 28, 3, 8, 5, 0)] (pc1 := 60) (lo1 := [some (.ref 10), some (.ref 66)]) (st1 := [.ref 15, .ref 71]) (μ1 := μ4) (vc := True) rfl (by decide +kernel) rfl trivial ?_
  refine pm_callSN2 mi_X9_copyRow (ix := 31) (host := RX9) (kc2 := 0) (ks2 := 0) (As := [.ref 71, .ref 15]) (rest := []) (c_X9_copyRow (a := 71) (b := 15) (n := 10) μ4 rfl rfl (by decide)) cal_X9_copyRow (by decide +kernel) (by decide +kernel) (by decide +kernel) rfl rfl (Nat.le_of_ble_eq_true rfl) (by decide) (by decide) ?_
  rintro _ μ5 ⟨rfl, e5⟩
  show pm_V _ _ _ _ 63 _ [] _
  exact pm_vret rfl (by decide) (by decide) (by decide +kernel) (by
    subst e1; subst e2; subst e3; subst e4; subst e5
    refine ⟨rfl, rfl, fun i hi => by rw [pm_row_off (by omega), pm_row_off (by omega), pm_row_off (by omega), pm_row_off (by omega), pm_row_off (by omega), pm_set_off (by omega)], lr_Rw.mv (b := 57) (b2 := 1) hX hn (by simp only [Nat.reduceAdd]; rw [pm_row_off (by decide), pm_row_off (by decide), pm_row_off (by decide), pm_row_off (by decide), pm_row_off (by decide), pm_set_hit]) (fun k i h1 h2 h3 => ?_) (fun _ _ _ => rfl)⟩
    rcases (show k = 10 ∨ k = 11 ∨ k = 12 ∨ k = 13 ∨ k = 14 by omega) with rfl | rfl | rfl | rfl | rfl
    · simp only [Nat.reduceAdd]; rw [pm_row_off (by decide), pm_row_off (by decide), pm_row_off (by decide), pm_row_off (by decide), pm_row_at]; unfold va_cpy; rw [if_pos (by omega), pm_set_off (by decide), show 0 + (i - 0) = i from by omega]
    · simp only [Nat.reduceAdd]; rw [pm_row_off (by decide), pm_row_off (by decide), pm_row_off (by decide), pm_row_at]; unfold va_cpy; rw [if_pos (by omega), pm_row_off (by decide), pm_set_off (by decide), show 0 + (i - 0) = i from by omega]
    · simp only [Nat.reduceAdd]; rw [pm_row_off (by decide), pm_row_off (by decide), pm_row_at]; unfold va_cpy; rw [if_pos (by omega), pm_row_off (by decide), pm_row_off (by decide), pm_set_off (by decide), show 0 + (i - 0) = i from by omega]
    · simp only [Nat.reduceAdd]; rw [pm_row_off (by decide), pm_row_at]; unfold va_cpy; rw [if_pos (by omega), pm_row_off (by decide), pm_row_off (by decide), pm_row_off (by decide), pm_set_off (by decide), show 0 + (i - 0) = i from by omega]
    · simp only [Nat.reduceAdd]; rw [pm_row_at]; unfold va_cpy; rw [if_pos (by omega), pm_row_off (by decide), pm_row_off (by decide), pm_row_off (by decide), pm_row_off (by decide), pm_set_off (by decide), show 0 + (i - 0) = i from by omega])
set_option maxHeartbeats 4000000 in
set_option maxRecDepth 100000 in
theorem c_X7_copyFrom_1_57 {g : Nat → Int32} (μ : pm_Mm) (hX : lr_Rr μ.1 57 g) (hn : lr_n g 167 ≤ 12) : pm_CT mi_X7_copyFrom [.ref 16, .ref 72] μ (fun v μ2 => v = none ∧ μ2.2 = μ.2 ∧ (∀ i, (i < 16 ∨ 21 < i) → μ2.1 i = μ.1 i) ∧ lr_Rr μ2.1 1 g) pm_NX := by
  refine pm_CT_of (lo := [some (.ref 16), some (.ref 72)]) (by decide +kernel) rfl rfl (by intro v hv; simp at hv; rcases hv with rfl | rfl <;> rfl) (Nat.le_of_ble_eq_true rfl) rfl ?_
  refine pm_bl [(.aload_n 0, 1, 0, 0, 0), (.aload_n 1, 1, 1, 0, 0), (.getfield 9, 3, 7, 0, 0), (.putfield 9, 3, 7, 0, 0), (.aload_n 1, 1, 1, 0, 0), (.getfield 15, 3, 7, 1, 0), (.aload_n 0, 1, 0, 0, 0), (.getfield 15, 3, 7, 1, 0)] (pc1 := 16) (lo1 := [some (.ref 16), some (.ref 72)]) (st1 := [.ref 17, .ref 73]) (μ1 := pm_set μ 16 0 (μ.1 72 0)) (vc := True) rfl (by decide +kernel) rfl trivial ?_
  refine pm_callSN2 mi_X9_copyRow (ix := 31) (host := RX9) (kc2 := 0) (ks2 := 0) (As := [.ref 73, .ref 17]) (rest := []) (c_X9_copyRow (a := 73) (b := 17) (n := 12) (pm_set μ 16 0 (μ.1 72 0)) rfl rfl (by decide)) cal_X9_copyRow (by decide +kernel) (by decide +kernel) (by decide +kernel) rfl rfl (Nat.le_of_ble_eq_true rfl) (by decide) (by decide) ?_
  rintro _ μ1 ⟨rfl, e1⟩
  show pm_V _ _ _ _ 19 _ [] _
  refine pm_bl [(.aload_n 1, 1, 1, 0, 0), (.getfield 19, 3, 7, 2, 0), (.aload_n 0, 1, 0, 0, 0), (.getfield 19, 3, 7, 2, 0)] (pc1 := 27) (lo1 := [some (.ref 16), some (.ref 72)]) (st1 := [.ref 18, .ref 74]) (μ1 := μ1) (vc := True) rfl (by decide +kernel) rfl trivial ?_
  refine pm_callSN2 mi_X9_copyRow (ix := 31) (host := RX9) (kc2 := 0) (ks2 := 0) (As := [.ref 74, .ref 18]) (rest := []) (c_X9_copyRow (a := 74) (b := 18) (n := 12) μ1 rfl rfl (by decide)) cal_X9_copyRow (by decide +kernel) (by decide +kernel) (by decide +kernel) rfl rfl (Nat.le_of_ble_eq_true rfl) (by decide) (by decide) ?_
  rintro _ μ2 ⟨rfl, e2⟩
  show pm_V _ _ _ _ 30 _ [] _
  refine pm_bl [(.aload_n 1, 1, 1, 0, 0), (.getfield 22, 3, 7, 3, 0), (.aload_n 0, 1, 0, 0, 0), (.getfield 22, 3, 7, 3, 0)] (pc1 := 38) (lo1 := [some (.ref 16), some (.ref 72)]) (st1 := [.ref 19, .ref 75]) (μ1 := μ2) (vc := True) rfl (by decide +kernel) rfl trivial ?_
  refine pm_callSN2 mi_X9_copyRow (ix := 31) (host := RX9) (kc2 := 0) (ks2 := 0) (As := [.ref 75, .ref 19]) (rest := []) (c_X9_copyRow (a := 75) (b := 19) (n := 12) μ2 rfl rfl (by decide)) cal_X9_copyRow (by decide +kernel) (by decide +kernel) (by decide +kernel) rfl rfl (Nat.le_of_ble_eq_true rfl) (by decide) (by decide) ?_
  rintro _ μ3 ⟨rfl, e3⟩
  show pm_V _ _ _ _ 41 _ [] _
  refine pm_bl [(.aload_n 1, 1, 1, 0, 0), (.getfield 25, 3, 7, 4, 0), (.aload_n 0, 1, 0, 0, 0), (.getfield 25, 3, 7, 4, 0)] (pc1 := 49) (lo1 := [some (.ref 16), some (.ref 72)]) (st1 := [.ref 20, .ref 76]) (μ1 := μ3) (vc := True) rfl (by decide +kernel) rfl trivial ?_
  refine pm_callSN2 mi_X9_copyRow (ix := 31) (host := RX9) (kc2 := 0) (ks2 := 0) (As := [.ref 76, .ref 20]) (rest := []) (c_X9_copyRow (a := 76) (b := 20) (n := 12) μ3 rfl rfl (by decide)) cal_X9_copyRow (by decide +kernel) (by decide +kernel) (by decide +kernel) rfl rfl (Nat.le_of_ble_eq_true rfl) (by decide) (by decide) ?_
  rintro _ μ4 ⟨rfl, e4⟩
  show pm_V _ _ _ _ 52 _ [] _
  refine pm_bl [(.aload_n 1, 1, 1, 0, 0), (.getfield 28, 3, 7, 5, 0), (.aload_n 0, 1, 0, 0, 0), (.getfield 28, 3, 7, 5, 0)] (pc1 := 60) (lo1 := [some (.ref 16), some (.ref 72)]) (st1 := [.ref 21, .ref 77]) (μ1 := μ4) (vc := True) rfl (by decide +kernel) rfl trivial ?_
  refine pm_callSN2 mi_X9_copyRow (ix := 31) (host := RX9) (kc2 := 0) (ks2 := 0) (As := [.ref 77, .ref 21]) (rest := []) (c_X9_copyRow (a := 77) (b := 21) (n := 12) μ4 rfl rfl (by decide)) cal_X9_copyRow (by decide +kernel) (by decide +kernel) (by decide +kernel) rfl rfl (Nat.le_of_ble_eq_true rfl) (by decide) (by decide) ?_
  rintro _ μ5 ⟨rfl, e5⟩
  show pm_V _ _ _ _ 63 _ [] _
  exact pm_vret rfl (by decide) (by decide) (by decide +kernel) (by
    subst e1; subst e2; subst e3; subst e4; subst e5
    refine ⟨rfl, rfl, fun i hi => by rw [pm_row_off (by omega), pm_row_off (by omega), pm_row_off (by omega), pm_row_off (by omega), pm_row_off (by omega), pm_set_off (by omega)], lr_Rr.mv (b := 57) (b2 := 1) hX hn (by simp only [Nat.reduceAdd]; rw [pm_row_off (by decide), pm_row_off (by decide), pm_row_off (by decide), pm_row_off (by decide), pm_row_off (by decide), pm_set_hit]) (fun k i h1 h2 h3 => ?_) (fun _ _ _ => rfl)⟩
    rcases (show k = 16 ∨ k = 17 ∨ k = 18 ∨ k = 19 ∨ k = 20 by omega) with rfl | rfl | rfl | rfl | rfl
    · simp only [Nat.reduceAdd]; rw [pm_row_off (by decide), pm_row_off (by decide), pm_row_off (by decide), pm_row_off (by decide), pm_row_at]; unfold va_cpy; rw [if_pos (by omega), pm_set_off (by decide), show 0 + (i - 0) = i from by omega]
    · simp only [Nat.reduceAdd]; rw [pm_row_off (by decide), pm_row_off (by decide), pm_row_off (by decide), pm_row_at]; unfold va_cpy; rw [if_pos (by omega), pm_row_off (by decide), pm_set_off (by decide), show 0 + (i - 0) = i from by omega]
    · simp only [Nat.reduceAdd]; rw [pm_row_off (by decide), pm_row_off (by decide), pm_row_at]; unfold va_cpy; rw [if_pos (by omega), pm_row_off (by decide), pm_row_off (by decide), pm_set_off (by decide), show 0 + (i - 0) = i from by omega]
    · simp only [Nat.reduceAdd]; rw [pm_row_off (by decide), pm_row_at]; unfold va_cpy; rw [if_pos (by omega), pm_row_off (by decide), pm_row_off (by decide), pm_row_off (by decide), pm_set_off (by decide), show 0 + (i - 0) = i from by omega]
    · simp only [Nat.reduceAdd]; rw [pm_row_at]; unfold va_cpy; rw [if_pos (by omega), pm_row_off (by decide), pm_row_off (by decide), pm_row_off (by decide), pm_row_off (by decide), pm_set_off (by decide), show 0 + (i - 0) = i from by omega])
set_option maxHeartbeats 4000000 in
set_option maxRecDepth 100000 in
theorem c_X0_copyFrom_1_57 {g : Nat → Int32} (μ : pm_Mm) (hX : lr_Ra μ.1 57 g) (hn : lr_n g 228 ≤ 20) : pm_CT mi_X0_copyFrom [.ref 22, .ref 78] μ (fun v μ2 => v = none ∧ μ2.2 = μ.2 ∧ (∀ i, (i < 22 ∨ 25 < i) → μ2.1 i = μ.1 i) ∧ lr_Ra μ2.1 1 g) pm_NX := by
  refine pm_CT_of (lo := [some (.ref 22), some (.ref 78)]) (by decide +kernel) rfl rfl (by intro v hv; simp at hv; rcases hv with rfl | rfl <;> rfl) (Nat.le_of_ble_eq_true rfl) rfl ?_
  refine pm_bl [(.aload_n 0, 1, 0, 0, 0), (.aload_n 1, 1, 1, 0, 0), (.getfield 9, 3, 0, 0, 0), (.putfield 9, 3, 0, 0, 0), (.aload_n 1, 1, 1, 0, 0), (.getfield 15, 3, 0, 1, 0), (.aload_n 0, 1, 0, 0, 0), (.getfield 15, 3, 0, 1, 0)] (pc1 := 16) (lo1 := [some (.ref 22), some (.ref 78)]) (st1 := [.ref 23, .ref 79]) (μ1 := pm_set μ 22 0 (μ.1 78 0)) (vc := True) rfl (by decide +kernel) rfl trivial ?_
  refine pm_callSN2 mi_X9_copyRow (ix := 25) (host := RX9) (kc2 := 0) (ks2 := 0) (As := [.ref 79, .ref 23]) (rest := []) (c_X9_copyRow (a := 79) (b := 23) (n := 20) (pm_set μ 22 0 (μ.1 78 0)) rfl rfl (by decide)) cal_X9_copyRow (by decide +kernel) (by decide +kernel) (by decide +kernel) rfl rfl (Nat.le_of_ble_eq_true rfl) (by decide) (by decide) ?_
  rintro _ μ1 ⟨rfl, e1⟩
  show pm_V _ _ _ _ 19 _ [] _
  refine pm_bl [(.aload_n 1, 1, 1, 0, 0), (.getfield 19, 3, 0, 2, 0), (.aload_n 0, 1, 0, 0, 0), (.getfield 19, 3, 0, 2, 0)] (pc1 := 27) (lo1 := [some (.ref 22), some (.ref 78)]) (st1 := [.ref 24, .ref 80]) (μ1 := μ1) (vc := True) rfl (by decide +kernel) rfl trivial ?_
  refine pm_callSN2 mi_X9_copyRow (ix := 25) (host := RX9) (kc2 := 0) (ks2 := 0) (As := [.ref 80, .ref 24]) (rest := []) (c_X9_copyRow (a := 80) (b := 24) (n := 20) μ1 rfl rfl (by decide)) cal_X9_copyRow (by decide +kernel) (by decide +kernel) (by decide +kernel) rfl rfl (Nat.le_of_ble_eq_true rfl) (by decide) (by decide) ?_
  rintro _ μ2 ⟨rfl, e2⟩
  show pm_V _ _ _ _ 30 _ [] _
  refine pm_bl [(.aload_n 1, 1, 1, 0, 0), (.getfield 22, 3, 0, 3, 0), (.aload_n 0, 1, 0, 0, 0), (.getfield 22, 3, 0, 3, 0)] (pc1 := 38) (lo1 := [some (.ref 22), some (.ref 78)]) (st1 := [.ref 25, .ref 81]) (μ1 := μ2) (vc := True) rfl (by decide +kernel) rfl trivial ?_
  refine pm_callSN2 mi_X9_copyRow (ix := 25) (host := RX9) (kc2 := 0) (ks2 := 0) (As := [.ref 81, .ref 25]) (rest := []) (c_X9_copyRow (a := 81) (b := 25) (n := 20) μ2 rfl rfl (by decide)) cal_X9_copyRow (by decide +kernel) (by decide +kernel) (by decide +kernel) rfl rfl (Nat.le_of_ble_eq_true rfl) (by decide) (by decide) ?_
  rintro _ μ3 ⟨rfl, e3⟩
  show pm_V _ _ _ _ 41 _ [] _
  exact pm_vret rfl (by decide) (by decide) (by decide +kernel) (by
    subst e1; subst e2; subst e3
    refine ⟨rfl, rfl, fun i hi => by rw [pm_row_off (by omega), pm_row_off (by omega), pm_row_off (by omega), pm_set_off (by omega)], lr_Ra.mv (b := 57) (b2 := 1) hX hn (by simp only [Nat.reduceAdd]; rw [pm_row_off (by decide), pm_row_off (by decide), pm_row_off (by decide), pm_set_hit]) (fun k i h1 h2 h3 => ?_) (fun _ _ _ => rfl)⟩
    rcases (show k = 22 ∨ k = 23 ∨ k = 24 by omega) with rfl | rfl | rfl
    · simp only [Nat.reduceAdd]; rw [pm_row_off (by decide), pm_row_off (by decide), pm_row_at]; unfold va_cpy; rw [if_pos (by omega), pm_set_off (by decide), show 0 + (i - 0) = i from by omega]
    · simp only [Nat.reduceAdd]; rw [pm_row_off (by decide), pm_row_at]; unfold va_cpy; rw [if_pos (by omega), pm_row_off (by decide), pm_set_off (by decide), show 0 + (i - 0) = i from by omega]
    · simp only [Nat.reduceAdd]; rw [pm_row_at]; unfold va_cpy; rw [if_pos (by omega), pm_row_off (by decide), pm_row_off (by decide), pm_set_off (by decide), show 0 + (i - 0) = i from by omega])
set_option maxHeartbeats 4000000 in
set_option maxRecDepth 100000 in
theorem c_X4_copyFrom_1_57 {g : Nat → Int32} (μ : pm_Mm) (hX : lr_Rl μ.1 57 g) (hn : lr_n g 289 ≤ 30) : pm_CT mi_X4_copyFrom [.ref 26, .ref 82] μ (fun v μ2 => v = none ∧ μ2.2 = μ.2 ∧ (∀ i, (i < 26 ∨ 38 < i) → μ2.1 i = μ.1 i) ∧ lr_Rl μ2.1 1 g) pm_NX := by
  refine pm_CT_of (lo := [some (.ref 26), some (.ref 82)]) (by decide +kernel) rfl rfl (by intro v hv; simp at hv; rcases hv with rfl | rfl <;> rfl) (Nat.le_of_ble_eq_true rfl) rfl ?_
  refine pm_bl [(.aload_n 0, 1, 0, 0, 0), (.aload_n 1, 1, 1, 0, 0), (.getfield 9, 3, 4, 0, 0), (.putfield 9, 3, 4, 0, 0), (.aload_n 0, 1, 0, 0, 0), (.aload_n 1, 1, 1, 0, 0), (.getfield 15, 3, 4, 1, 0), (.putfield 15, 3, 4, 1, 0), (.aload_n 1, 1, 1, 0, 0), (.getfield 18, 3, 4, 2, 0), (.aload_n 0, 1, 0, 0, 0), (.getfield 18, 3, 4, 2, 0)] (pc1 := 24) (lo1 := [some (.ref 26), some (.ref 82)]) (st1 := [.ref 27, .ref 83]) (μ1 := pm_set (pm_set μ 26 0 (μ.1 82 0)) 26 1 ((pm_set μ 26 0 (μ.1 82 0)).1 82 1)) (vc := True) rfl (by decide +kernel) rfl trivial ?_
  rw [show (pm_set μ 26 0 (μ.1 82 0)).1 82 1 = μ.1 82 1 from by simp [pm_set]]
  refine pm_callSN2 mi_X9_copyRow (ix := 55) (host := RX9) (kc2 := 0) (ks2 := 0) (As := [.ref 83, .ref 27]) (rest := []) (c_X9_copyRow (a := 83) (b := 27) (n := 30) (pm_set (pm_set μ 26 0 (μ.1 82 0)) 26 1 (μ.1 82 1)) rfl rfl (by decide)) cal_X9_copyRow (by decide +kernel) (by decide +kernel) (by decide +kernel) rfl rfl (Nat.le_of_ble_eq_true rfl) (by decide) (by decide) ?_
  rintro _ μ1 ⟨rfl, e1⟩
  show pm_V _ _ _ _ 27 _ [] _
  refine pm_bl [(.aload_n 1, 1, 1, 0, 0), (.getfield 22, 3, 4, 3, 0), (.aload_n 0, 1, 0, 0, 0), (.getfield 22, 3, 4, 3, 0)] (pc1 := 35) (lo1 := [some (.ref 26), some (.ref 82)]) (st1 := [.ref 28, .ref 84]) (μ1 := μ1) (vc := True) rfl (by decide +kernel) rfl trivial ?_
  refine pm_callSN2 mi_X9_copyRow (ix := 55) (host := RX9) (kc2 := 0) (ks2 := 0) (As := [.ref 84, .ref 28]) (rest := []) (c_X9_copyRow (a := 84) (b := 28) (n := 30) μ1 rfl rfl (by decide)) cal_X9_copyRow (by decide +kernel) (by decide +kernel) (by decide +kernel) rfl rfl (Nat.le_of_ble_eq_true rfl) (by decide) (by decide) ?_
  rintro _ μ2 ⟨rfl, e2⟩
  show pm_V _ _ _ _ 38 _ [] _
  refine pm_bl [(.aload_n 1, 1, 1, 0, 0), (.getfield 25, 3, 4, 4, 0), (.aload_n 0, 1, 0, 0, 0), (.getfield 25, 3, 4, 4, 0)] (pc1 := 46) (lo1 := [some (.ref 26), some (.ref 82)]) (st1 := [.ref 29, .ref 85]) (μ1 := μ2) (vc := True) rfl (by decide +kernel) rfl trivial ?_
  refine pm_callSN2 mi_X9_copyRow (ix := 55) (host := RX9) (kc2 := 0) (ks2 := 0) (As := [.ref 85, .ref 29]) (rest := []) (c_X9_copyRow (a := 85) (b := 29) (n := 30) μ2 rfl rfl (by decide)) cal_X9_copyRow (by decide +kernel) (by decide +kernel) (by decide +kernel) rfl rfl (Nat.le_of_ble_eq_true rfl) (by decide) (by decide) ?_
  rintro _ μ3 ⟨rfl, e3⟩
  show pm_V _ _ _ _ 49 _ [] _
  refine pm_bl [(.aload_n 1, 1, 1, 0, 0), (.getfield 28, 3, 4, 5, 0), (.aload_n 0, 1, 0, 0, 0), (.getfield 28, 3, 4, 5, 0)] (pc1 := 57) (lo1 := [some (.ref 26), some (.ref 82)]) (st1 := [.ref 30, .ref 86]) (μ1 := μ3) (vc := True) rfl (by decide +kernel) rfl trivial ?_
  refine pm_callSN2 mi_X9_copyRow (ix := 55) (host := RX9) (kc2 := 0) (ks2 := 0) (As := [.ref 86, .ref 30]) (rest := []) (c_X9_copyRow (a := 86) (b := 30) (n := 30) μ3 rfl rfl (by decide)) cal_X9_copyRow (by decide +kernel) (by decide +kernel) (by decide +kernel) rfl rfl (Nat.le_of_ble_eq_true rfl) (by decide) (by decide) ?_
  rintro _ μ4 ⟨rfl, e4⟩
  show pm_V _ _ _ _ 60 _ [] _
  refine pm_bl [(.aload_n 1, 1, 1, 0, 0), (.getfield 31, 3, 4, 6, 0), (.aload_n 0, 1, 0, 0, 0), (.getfield 31, 3, 4, 6, 0)] (pc1 := 68) (lo1 := [some (.ref 26), some (.ref 82)]) (st1 := [.ref 31, .ref 87]) (μ1 := μ4) (vc := True) rfl (by decide +kernel) rfl trivial ?_
  refine pm_callSN2 mi_X9_copyRow (ix := 55) (host := RX9) (kc2 := 0) (ks2 := 0) (As := [.ref 87, .ref 31]) (rest := []) (c_X9_copyRow (a := 87) (b := 31) (n := 30) μ4 rfl rfl (by decide)) cal_X9_copyRow (by decide +kernel) (by decide +kernel) (by decide +kernel) rfl rfl (Nat.le_of_ble_eq_true rfl) (by decide) (by decide) ?_
  rintro _ μ5 ⟨rfl, e5⟩
  show pm_V _ _ _ _ 71 _ [] _
  refine pm_bl [(.aload_n 1, 1, 1, 0, 0), (.getfield 34, 3, 4, 7, 0), (.aload_n 0, 1, 0, 0, 0), (.getfield 34, 3, 4, 7, 0)] (pc1 := 79) (lo1 := [some (.ref 26), some (.ref 82)]) (st1 := [.ref 32, .ref 88]) (μ1 := μ5) (vc := True) rfl (by decide +kernel) rfl trivial ?_
  refine pm_callSN2 mi_X9_copyRow (ix := 55) (host := RX9) (kc2 := 0) (ks2 := 0) (As := [.ref 88, .ref 32]) (rest := []) (c_X9_copyRow (a := 88) (b := 32) (n := 30) μ5 rfl rfl (by decide)) cal_X9_copyRow (by decide +kernel) (by decide +kernel) (by decide +kernel) rfl rfl (Nat.le_of_ble_eq_true rfl) (by decide) (by decide) ?_
  rintro _ μ6 ⟨rfl, e6⟩
  show pm_V _ _ _ _ 82 _ [] _
  refine pm_bl [(.aload_n 1, 1, 1, 0, 0), (.getfield 37, 3, 4, 8, 0), (.aload_n 0, 1, 0, 0, 0), (.getfield 37, 3, 4, 8, 0)] (pc1 := 90) (lo1 := [some (.ref 26), some (.ref 82)]) (st1 := [.ref 33, .ref 89]) (μ1 := μ6) (vc := True) rfl (by decide +kernel) rfl trivial ?_
  refine pm_callSN2 mi_X9_copyRow (ix := 55) (host := RX9) (kc2 := 0) (ks2 := 0) (As := [.ref 89, .ref 33]) (rest := []) (c_X9_copyRow (a := 89) (b := 33) (n := 30) μ6 rfl rfl (by decide)) cal_X9_copyRow (by decide +kernel) (by decide +kernel) (by decide +kernel) rfl rfl (Nat.le_of_ble_eq_true rfl) (by decide) (by decide) ?_
  rintro _ μ7 ⟨rfl, e7⟩
  show pm_V _ _ _ _ 93 _ [] _
  refine pm_bl [(.aload_n 1, 1, 1, 0, 0), (.getfield 40, 3, 4, 9, 0), (.aload_n 0, 1, 0, 0, 0), (.getfield 40, 3, 4, 9, 0)] (pc1 := 101) (lo1 := [some (.ref 26), some (.ref 82)]) (st1 := [.ref 34, .ref 90]) (μ1 := μ7) (vc := True) rfl (by decide +kernel) rfl trivial ?_
  refine pm_callSN2 mi_X9_copyRow (ix := 55) (host := RX9) (kc2 := 0) (ks2 := 0) (As := [.ref 90, .ref 34]) (rest := []) (c_X9_copyRow (a := 90) (b := 34) (n := 30) μ7 rfl rfl (by decide)) cal_X9_copyRow (by decide +kernel) (by decide +kernel) (by decide +kernel) rfl rfl (Nat.le_of_ble_eq_true rfl) (by decide) (by decide) ?_
  rintro _ μ8 ⟨rfl, e8⟩
  show pm_V _ _ _ _ 104 _ [] _
  refine pm_bl [(.aload_n 1, 1, 1, 0, 0), (.getfield 43, 3, 4, 10, 0), (.aload_n 0, 1, 0, 0, 0), (.getfield 43, 3, 4, 10, 0)] (pc1 := 112) (lo1 := [some (.ref 26), some (.ref 82)]) (st1 := [.ref 35, .ref 91]) (μ1 := μ8) (vc := True) rfl (by decide +kernel) rfl trivial ?_
  refine pm_callSN2 mi_X9_copyRow (ix := 55) (host := RX9) (kc2 := 0) (ks2 := 0) (As := [.ref 91, .ref 35]) (rest := []) (c_X9_copyRow (a := 91) (b := 35) (n := 30) μ8 rfl rfl (by decide)) cal_X9_copyRow (by decide +kernel) (by decide +kernel) (by decide +kernel) rfl rfl (Nat.le_of_ble_eq_true rfl) (by decide) (by decide) ?_
  rintro _ μ9 ⟨rfl, e9⟩
  show pm_V _ _ _ _ 115 _ [] _
  refine pm_bl [(.aload_n 1, 1, 1, 0, 0), (.getfield 46, 3, 4, 11, 0), (.aload_n 0, 1, 0, 0, 0), (.getfield 46, 3, 4, 11, 0)] (pc1 := 123) (lo1 := [some (.ref 26), some (.ref 82)]) (st1 := [.ref 36, .ref 92]) (μ1 := μ9) (vc := True) rfl (by decide +kernel) rfl trivial ?_
  refine pm_callSN2 mi_X9_copyRow (ix := 55) (host := RX9) (kc2 := 0) (ks2 := 0) (As := [.ref 92, .ref 36]) (rest := []) (c_X9_copyRow (a := 92) (b := 36) (n := 30) μ9 rfl rfl (by decide)) cal_X9_copyRow (by decide +kernel) (by decide +kernel) (by decide +kernel) rfl rfl (Nat.le_of_ble_eq_true rfl) (by decide) (by decide) ?_
  rintro _ μ10 ⟨rfl, e10⟩
  show pm_V _ _ _ _ 126 _ [] _
  refine pm_bl [(.aload_n 1, 1, 1, 0, 0), (.getfield 49, 3, 4, 12, 0), (.aload_n 0, 1, 0, 0, 0), (.getfield 49, 3, 4, 12, 0)] (pc1 := 134) (lo1 := [some (.ref 26), some (.ref 82)]) (st1 := [.ref 37, .ref 93]) (μ1 := μ10) (vc := True) rfl (by decide +kernel) rfl trivial ?_
  refine pm_callSN2 mi_X9_copyRow (ix := 55) (host := RX9) (kc2 := 0) (ks2 := 0) (As := [.ref 93, .ref 37]) (rest := []) (c_X9_copyRow (a := 93) (b := 37) (n := 30) μ10 rfl rfl (by decide)) cal_X9_copyRow (by decide +kernel) (by decide +kernel) (by decide +kernel) rfl rfl (Nat.le_of_ble_eq_true rfl) (by decide) (by decide) ?_
  rintro _ μ11 ⟨rfl, e11⟩
  show pm_V _ _ _ _ 137 _ [] _
  refine pm_bl [(.aload_n 1, 1, 1, 0, 0), (.getfield 52, 3, 4, 13, 0), (.aload_n 0, 1, 0, 0, 0), (.getfield 52, 3, 4, 13, 0)] (pc1 := 145) (lo1 := [some (.ref 26), some (.ref 82)]) (st1 := [.ref 38, .ref 94]) (μ1 := μ11) (vc := True) rfl (by decide +kernel) rfl trivial ?_
  refine pm_callSN2 mi_X9_copyRow (ix := 55) (host := RX9) (kc2 := 0) (ks2 := 0) (As := [.ref 94, .ref 38]) (rest := []) (c_X9_copyRow (a := 94) (b := 38) (n := 30) μ11 rfl rfl (by decide)) cal_X9_copyRow (by decide +kernel) (by decide +kernel) (by decide +kernel) rfl rfl (Nat.le_of_ble_eq_true rfl) (by decide) (by decide) ?_
  rintro _ μ12 ⟨rfl, e12⟩
  show pm_V _ _ _ _ 148 _ [] _
  exact pm_vret rfl (by decide) (by decide) (by decide +kernel) (by
    subst e1; subst e2; subst e3; subst e4; subst e5; subst e6; subst e7; subst e8; subst e9; subst e10; subst e11; subst e12
    refine ⟨rfl, rfl, fun i hi => by rw [pm_row_off (by omega), pm_row_off (by omega), pm_row_off (by omega), pm_row_off (by omega), pm_row_off (by omega), pm_row_off (by omega), pm_row_off (by omega), pm_row_off (by omega), pm_row_off (by omega), pm_row_off (by omega), pm_row_off (by omega), pm_row_off (by omega), pm_set_off (by omega), pm_set_off (by omega)], lr_Rl.mv (b := 57) (b2 := 1) hX hn (by simp only [Nat.reduceAdd]; rw [pm_row_off (by decide), pm_row_off (by decide), pm_row_off (by decide), pm_row_off (by decide), pm_row_off (by decide), pm_row_off (by decide), pm_row_off (by decide), pm_row_off (by decide), pm_row_off (by decide), pm_row_off (by decide), pm_row_off (by decide), pm_row_off (by decide), pm_set_miss (Or.inr (by decide)), pm_set_hit]) (by simp only [Nat.reduceAdd]; rw [pm_row_off (by decide), pm_row_off (by decide), pm_row_off (by decide), pm_row_off (by decide), pm_row_off (by decide), pm_row_off (by decide), pm_row_off (by decide), pm_row_off (by decide), pm_row_off (by decide), pm_row_off (by decide), pm_row_off (by decide), pm_row_off (by decide), pm_set_hit]) (fun k i h1 h2 h3 => ?_) (fun _ _ _ => rfl) rfl⟩
    rcases (show k = 26 ∨ k = 27 ∨ k = 28 ∨ k = 29 ∨ k = 30 ∨ k = 31 ∨ k = 32 ∨ k = 33 ∨ k = 34 ∨ k = 35 ∨ k = 36 ∨ k = 37 by omega) with rfl | rfl | rfl | rfl | rfl | rfl | rfl | rfl | rfl | rfl | rfl | rfl
    · simp only [Nat.reduceAdd]; rw [pm_row_off (by decide), pm_row_off (by decide), pm_row_off (by decide), pm_row_off (by decide), pm_row_off (by decide), pm_row_off (by decide), pm_row_off (by decide), pm_row_off (by decide), pm_row_off (by decide), pm_row_off (by decide), pm_row_off (by decide), pm_row_at]; unfold va_cpy; rw [if_pos (by omega), pm_set_off (by decide), pm_set_off (by decide), show 0 + (i - 0) = i from by omega]
    · simp only [Nat.reduceAdd]; rw [pm_row_off (by decide), pm_row_off (by decide), pm_row_off (by decide), pm_row_off (by decide), pm_row_off (by decide), pm_row_off (by decide), pm_row_off (by decide), pm_row_off (by decide), pm_row_off (by decide), pm_row_off (by decide), pm_row_at]; unfold va_cpy; rw [if_pos (by omega), pm_row_off (by decide), pm_set_off (by decide), pm_set_off (by decide), show 0 + (i - 0) = i from by omega]
    · simp only [Nat.reduceAdd]; rw [pm_row_off (by decide), pm_row_off (by decide), pm_row_off (by decide), pm_row_off (by decide), pm_row_off (by decide), pm_row_off (by decide), pm_row_off (by decide), pm_row_off (by decide), pm_row_off (by decide), pm_row_at]; unfold va_cpy; rw [if_pos (by omega), pm_row_off (by decide), pm_row_off (by decide), pm_set_off (by decide), pm_set_off (by decide), show 0 + (i - 0) = i from by omega]
    · simp only [Nat.reduceAdd]; rw [pm_row_off (by decide), pm_row_off (by decide), pm_row_off (by decide), pm_row_off (by decide), pm_row_off (by decide), pm_row_off (by decide), pm_row_off (by decide), pm_row_off (by decide), pm_row_at]; unfold va_cpy; rw [if_pos (by omega), pm_row_off (by decide), pm_row_off (by decide), pm_row_off (by decide), pm_set_off (by decide), pm_set_off (by decide), show 0 + (i - 0) = i from by omega]
    · simp only [Nat.reduceAdd]; rw [pm_row_off (by decide), pm_row_off (by decide), pm_row_off (by decide), pm_row_off (by decide), pm_row_off (by decide), pm_row_off (by decide), pm_row_off (by decide), pm_row_at]; unfold va_cpy; rw [if_pos (by omega), pm_row_off (by decide), pm_row_off (by decide), pm_row_off (by decide), pm_row_off (by decide), pm_set_off (by decide), pm_set_off (by decide), show 0 + (i - 0) = i from by omega]
    · simp only [Nat.reduceAdd]; rw [pm_row_off (by decide), pm_row_off (by decide), pm_row_off (by decide), pm_row_off (by decide), pm_row_off (by decide), pm_row_off (by decide), pm_row_at]; unfold va_cpy; rw [if_pos (by omega), pm_row_off (by decide), pm_row_off (by decide), pm_row_off (by decide), pm_row_off (by decide), pm_row_off (by decide), pm_set_off (by decide), pm_set_off (by decide), show 0 + (i - 0) = i from by omega]
    · simp only [Nat.reduceAdd]; rw [pm_row_off (by decide), pm_row_off (by decide), pm_row_off (by decide), pm_row_off (by decide), pm_row_off (by decide), pm_row_at]; unfold va_cpy; rw [if_pos (by omega), pm_row_off (by decide), pm_row_off (by decide), pm_row_off (by decide), pm_row_off (by decide), pm_row_off (by decide), pm_row_off (by decide), pm_set_off (by decide), pm_set_off (by decide), show 0 + (i - 0) = i from by omega]
    · simp only [Nat.reduceAdd]; rw [pm_row_off (by decide), pm_row_off (by decide), pm_row_off (by decide), pm_row_off (by decide), pm_row_at]; unfold va_cpy; rw [if_pos (by omega), pm_row_off (by decide), pm_row_off (by decide), pm_row_off (by decide), pm_row_off (by decide), pm_row_off (by decide), pm_row_off (by decide), pm_row_off (by decide), pm_set_off (by decide), pm_set_off (by decide), show 0 + (i - 0) = i from by omega]
    · simp only [Nat.reduceAdd]; rw [pm_row_off (by decide), pm_row_off (by decide), pm_row_off (by decide), pm_row_at]; unfold va_cpy; rw [if_pos (by omega), pm_row_off (by decide), pm_row_off (by decide), pm_row_off (by decide), pm_row_off (by decide), pm_row_off (by decide), pm_row_off (by decide), pm_row_off (by decide), pm_row_off (by decide), pm_set_off (by decide), pm_set_off (by decide), show 0 + (i - 0) = i from by omega]
    · simp only [Nat.reduceAdd]; rw [pm_row_off (by decide), pm_row_off (by decide), pm_row_at]; unfold va_cpy; rw [if_pos (by omega), pm_row_off (by decide), pm_row_off (by decide), pm_row_off (by decide), pm_row_off (by decide), pm_row_off (by decide), pm_row_off (by decide), pm_row_off (by decide), pm_row_off (by decide), pm_row_off (by decide), pm_set_off (by decide), pm_set_off (by decide), show 0 + (i - 0) = i from by omega]
    · simp only [Nat.reduceAdd]; rw [pm_row_off (by decide), pm_row_at]; unfold va_cpy; rw [if_pos (by omega), pm_row_off (by decide), pm_row_off (by decide), pm_row_off (by decide), pm_row_off (by decide), pm_row_off (by decide), pm_row_off (by decide), pm_row_off (by decide), pm_row_off (by decide), pm_row_off (by decide), pm_row_off (by decide), pm_set_off (by decide), pm_set_off (by decide), show 0 + (i - 0) = i from by omega]
    · simp only [Nat.reduceAdd]; rw [pm_row_at]; unfold va_cpy; rw [if_pos (by omega), pm_row_off (by decide), pm_row_off (by decide), pm_row_off (by decide), pm_row_off (by decide), pm_row_off (by decide), pm_row_off (by decide), pm_row_off (by decide), pm_row_off (by decide), pm_row_off (by decide), pm_row_off (by decide), pm_row_off (by decide), pm_set_off (by decide), pm_set_off (by decide), show 0 + (i - 0) = i from by omega])
set_option maxHeartbeats 4000000 in
set_option maxRecDepth 100000 in
theorem c_X5_copyFrom_1_57 {g : Nat → Int32} (μ : pm_Mm) (hR : lr_Rel μ.1 57 g) (hB : lr_B g) : pm_CT mi_X5_copyFrom [.ref 1, .ref 57] μ (fun v μ2 => v = none ∧ μ2.2 = μ.2 ∧ (∀ i, (i < 1 ∨ 39 < i) → μ2.1 i = μ.1 i) ∧ lr_Rel μ2.1 1 g) pm_NX := by
  refine pm_CT_of (lo := [some (.ref 1), some (.ref 57)]) (by decide +kernel) rfl rfl (by intro v hv; simp at hv; rcases hv with rfl | rfl <;> rfl) (Nat.le_of_ble_eq_true rfl) rfl ?_
  obtain ⟨hm1, hm3, hm2, hm4, hm5, hm6⟩ := id hB
  refine pm_bl [(.aload_n 0, 1, 0, 0, 0), (.getfield 12, 3, 5, 0, 0), (.aload_n 1, 1, 1, 0, 0), (.getfield 12, 3, 5, 0, 0)] (pc1 := 8) (lo1 := [some (.ref 1), some (.ref 57)]) (st1 := [.ref 58, .ref 2]) (μ1 := μ) (vc := True) rfl (by decide +kernel) rfl trivial ?_
  refine pm_callV2 mi_X3_copyFrom (ix := 61) (b := 2) (ci := 3) (kc2 := 0) (ks2 := 0) (As := [.ref 58]) (rest := []) (c_X3_copyFrom_1_57 μ hR.2.1 hm1) cal_X3_copyFrom lk5_61 (by decide +kernel) rfl (by decide +kernel) rfl rfl rfl rfl (Nat.le_of_ble_eq_true rfl) (by decide) (by decide) (fun _ _ h9 => h9.elim) ?_
  rintro _ μ1 ⟨rfl, x1, f1, r1⟩
  show pm_V _ _ _ _ 11 _ [] _
  refine pm_bl [(.aload_n 0, 1, 0, 0, 0), (.getfield 21, 3, 5, 1, 0), (.aload_n 1, 1, 1, 0, 0), (.getfield 21, 3, 5, 1, 0)] (pc1 := 19) (lo1 := [some (.ref 1), some (.ref 57)]) (st1 := [.ref 61, .ref 5]) (μ1 := μ1) (vc := True) rfl (by decide +kernel) rfl trivial ?_
  refine pm_callV2 mi_X6_copyFrom (ix := 65) (b := 5) (ci := 6) (kc2 := 0) (ks2 := 0) (As := [.ref 61]) (rest := []) (c_X6_copyFrom_1_57 μ1 (lr_Rp.st (b := 57) hR.2.2.1 hm3 (fun k h1 h2 => by rw [f1 _ (by omega)]) (fun _ _ _ => rfl)) hm3) cal_X6_copyFrom lk5_65 (by decide +kernel) rfl (by decide +kernel) rfl rfl rfl rfl (Nat.le_of_ble_eq_true rfl) (by decide) (by decide) (fun _ _ h9 => h9.elim) ?_
  rintro _ μ2 ⟨rfl, x2, f2, r2⟩
  show pm_V _ _ _ _ 22 _ [] _
  refine pm_bl [(.aload_n 0, 1, 0, 0, 0), (.getfield 28, 3, 5, 2, 0), (.aload_n 1, 1, 1, 0, 0), (.getfield 28, 3, 5, 2, 0)] (pc1 := 30) (lo1 := [some (.ref 1), some (.ref 57)]) (st1 := [.ref 66, .ref 10]) (μ1 := μ2) (vc := True) rfl (by decide +kernel) rfl trivial ?_
  refine pm_callV2 mi_X8_copyFrom (ix := 68) (b := 10) (ci := 8) (kc2 := 0) (ks2 := 0) (As := [.ref 66]) (rest := []) (c_X8_copyFrom_1_57 μ2 (lr_Rw.st (b := 57) hR.2.2.2.1 hm2 (fun k h1 h2 => by rw [f2 _ (by omega), f1 _ (by omega)]) (fun _ _ _ => rfl)) hm2) cal_X8_copyFrom lk5_68 (by decide +kernel) rfl (by decide +kernel) rfl rfl rfl rfl (Nat.le_of_ble_eq_true rfl) (by decide) (by decide) (fun _ _ h9 => h9.elim) ?_
  rintro _ μ3 ⟨rfl, x3, f3, r3⟩
  show pm_V _ _ _ _ 33 _ [] _
  refine pm_bl [(.aload_n 0, 1, 0, 0, 0), (.getfield 35, 3, 5, 3, 0), (.aload_n 1, 1, 1, 0, 0), (.getfield 35, 3, 5, 3, 0)] (pc1 := 41) (lo1 := [some (.ref 1), some (.ref 57)]) (st1 := [.ref 72, .ref 16]) (μ1 := μ3) (vc := True) rfl (by decide +kernel) rfl trivial ?_
  refine pm_callV2 mi_X7_copyFrom (ix := 71) (b := 16) (ci := 7) (kc2 := 0) (ks2 := 0) (As := [.ref 72]) (rest := []) (c_X7_copyFrom_1_57 μ3 (lr_Rr.st (b := 57) hR.2.2.2.2.1 hm4 (fun k h1 h2 => by rw [f3 _ (by omega), f2 _ (by omega), f1 _ (by omega)]) (fun _ _ _ => rfl)) hm4) cal_X7_copyFrom lk5_71 (by decide +kernel) rfl (by decide +kernel) rfl rfl rfl rfl (Nat.le_of_ble_eq_true rfl) (by decide) (by decide) (fun _ _ h9 => h9.elim) ?_
  rintro _ μ4 ⟨rfl, x4, f4, r4⟩
  show pm_V _ _ _ _ 44 _ [] _
  refine pm_bl [(.aload_n 0, 1, 0, 0, 0), (.getfield 42, 3, 5, 4, 0), (.aload_n 1, 1, 1, 0, 0), (.getfield 42, 3, 5, 4, 0)] (pc1 := 52) (lo1 := [some (.ref 1), some (.ref 57)]) (st1 := [.ref 78, .ref 22]) (μ1 := μ4) (vc := True) rfl (by decide +kernel) rfl trivial ?_
  refine pm_callV2 mi_X0_copyFrom (ix := 74) (b := 22) (ci := 0) (kc2 := 0) (ks2 := 0) (As := [.ref 78]) (rest := []) (c_X0_copyFrom_1_57 μ4 (lr_Ra.st (b := 57) hR.2.2.2.2.2.1 hm5 (fun k h1 h2 => by rw [f4 _ (by omega), f3 _ (by omega), f2 _ (by omega), f1 _ (by omega)]) (fun _ _ _ => rfl)) hm5) cal_X0_copyFrom lk5_74 (by decide +kernel) rfl (by decide +kernel) rfl rfl rfl rfl (Nat.le_of_ble_eq_true rfl) (by decide) (by decide) (fun _ _ h9 => h9.elim) ?_
  rintro _ μ5 ⟨rfl, x5, f5, r5⟩
  show pm_V _ _ _ _ 55 _ [] _
  refine pm_bl [(.aload_n 0, 1, 0, 0, 0), (.getfield 49, 3, 5, 5, 0), (.aload_n 1, 1, 1, 0, 0), (.getfield 49, 3, 5, 5, 0)] (pc1 := 63) (lo1 := [some (.ref 1), some (.ref 57)]) (st1 := [.ref 82, .ref 26]) (μ1 := μ5) (vc := True) rfl (by decide +kernel) rfl trivial ?_
  refine pm_callV2 mi_X4_copyFrom (ix := 77) (b := 26) (ci := 4) (kc2 := 0) (ks2 := 0) (As := [.ref 82]) (rest := []) (c_X4_copyFrom_1_57 μ5 (lr_Rl.st (b := 57) hR.2.2.2.2.2.2 hm6 (fun k h1 h2 => by rw [f5 _ (by omega), f4 _ (by omega), f3 _ (by omega), f2 _ (by omega), f1 _ (by omega)]) rfl (fun _ _ _ => rfl)) hm6) cal_X4_copyFrom lk5_77 (by decide +kernel) rfl (by decide +kernel) rfl rfl rfl rfl (Nat.le_of_ble_eq_true rfl) (by decide) (by decide) (fun _ _ h9 => h9.elim) ?_
  rintro _ μ6 ⟨rfl, x6, f6, r6⟩
  show pm_V _ _ _ _ 66 _ [] _
  refine pm_bl [(.aload_n 0, 1, 0, 0, 0), (.aload_n 1, 1, 1, 0, 0), (.getfield 53, 3, 5, 6, 0), (.putfield 53, 3, 5, 6, 0)] (pc1 := 74) (lo1 := [some (.ref 1), some (.ref 57)]) (st1 := []) (μ1 := pm_set μ6 1 6 (μ6.1 57 6)) (vc := True) rfl (by decide +kernel) rfl trivial ?_
  exact pm_vret rfl (by decide) (by decide) (by decide +kernel) (⟨rfl, (x6.trans (x5.trans (x4.trans (x3.trans (x2.trans x1))))), fun i hi => by rw [pm_set_off (by omega), f6 _ (by omega), f5 _ (by omega), f4 _ (by omega), f3 _ (by omega), f2 _ (by omega), f1 _ (by omega)], by rw [pm_set_hit, f6 _ (by omega), f5 _ (by omega), f4 _ (by omega), f3 _ (by omega), f2 _ (by omega), f1 _ (by omega)]; exact hR.1, lr_Rh.st (b := 1) r1 hm1 (fun k h1 h2 => by rw [pm_set_off (by omega), f6 _ (by omega), f5 _ (by omega), f4 _ (by omega), f3 _ (by omega), f2 _ (by omega)]) (fun _ _ _ => rfl), lr_Rp.st (b := 1) r2 hm3 (fun k h1 h2 => by rw [pm_set_off (by omega), f6 _ (by omega), f5 _ (by omega), f4 _ (by omega), f3 _ (by omega)]) (fun _ _ _ => rfl), lr_Rw.st (b := 1) r3 hm2 (fun k h1 h2 => by rw [pm_set_off (by omega), f6 _ (by omega), f5 _ (by omega), f4 _ (by omega)]) (fun _ _ _ => rfl), lr_Rr.st (b := 1) r4 hm4 (fun k h1 h2 => by rw [pm_set_off (by omega), f6 _ (by omega), f5 _ (by omega)]) (fun _ _ _ => rfl), lr_Ra.st (b := 1) r5 hm5 (fun k h1 h2 => by rw [pm_set_off (by omega), f6 _ (by omega)]) (fun _ _ _ => rfl), lr_Rl.st (b := 1) r6 hm6 (fun k h1 h2 => by rw [pm_set_off (by omega)]) rfl (fun _ _ _ => rfl)⟩)
