/-! the model: its reading methods, by its row -/
theorem lr_in_be {v : Int32} {n : Nat} (hn : n < 2 ^ 30) : lr_in v 0 (nI n - 1) = lr_be v (nI n) := by
  unfold lr_in lr_be
  by_cases h0 : v < 0
  · simp [h0]
  · obtain ⟨k, hk, rfl⟩ := nI_of h0
    congr 2
    cases n with
    | zero =>
      have h1 : nI 0 - 1 < nI k := by
        have : (nI 0 - 1 : Int32) < 0 := by decide
        exact Int32.lt_of_lt_of_le this (nI_pos' hk)
      simp [h1, nI_le (Nat.zero_le k) hk]
    | succ n =>
      rw [nI_pred]
      rw [decide_eq_decide, nI_ltI (by omega) hk, nI_leI (by omega) hk]
      exact Iff.rfl
set_option maxHeartbeats 4000000 in
set_option maxRecDepth 100000 in
theorem c_X10_isHouse {g : Nat → Int32} (x : Int32) (μ : pm_Mm) (hM : μ.1 48 = g) (hG : lr_G g) : pm_CT mi_X10_isHouse [.ref 47, .int x] μ (fun v μ2 => v = some (.int (lr_b (lr_be x (nI (lr_n g 2))))) ∧ μ2 = μ) pm_NX := by
  refine pm_CT_of (lo := [some (.ref 47), some (.int x)]) (by decide +kernel) rfl rfl (by intro v hv; simp at hv; rcases hv with rfl | rfl <;> rfl) (Nat.le_of_ble_eq_true rfl) rfl ?_
  have hm1 := lr_mh hG; have hm2 := lr_mw hG; have hm3 := lr_mp hG; have hm4 := lr_mr hG; have hm5 := lr_ma hG; have hm6 := lr_ml hG
  refine pm_bl [(.iload_n 1, 1, 1, 0, 0), (.iconst 0, 1, 0, 0, 0), (.aload_n 0, 1, 0, 0, 0), (.getfield 7, 3, 10, 0, 0), (.iconst 2, 1, 0, 0, 2), (.iaload, 1, 0, 0, 0)] (pc1 := 8) (lo1 := [some (.ref 47), some (.int x)]) (st1 := [.int (μ.1 48 (2 : Int32).toNatClampNeg), .int 0, .int x]) (μ1 := μ) (vc := vp_in 2 620 ∧ True) rfl (by decide +kernel) rfl ⟨(by unfold vp_in; decide), trivial⟩ ?_
  rw [show (2 : Int32).toNatClampNeg = 2 from by decide, hM, lr_gh hG]
  refine pm_bl [(.iconst 1, 1, 0, 0, 1), (.isub, 1, 0, 0, 0)] (pc1 := 10) (lo1 := [some (.ref 47), some (.int x)]) (st1 := [.int ((nI (lr_n g 2)) - 1), .int 0, .int x]) (μ1 := μ) (vc := True) rfl (by decide +kernel) rfl trivial ?_
  refine pm_callS2 mi_X10_in (ix := 45) (kc2 := 0) (ks2 := 0) (As := [.int x, .int 0, .int ((nI (lr_n g 2)) - 1)]) (rest := []) (c_X10_in x 0 ((nI (lr_n g 2)) - 1) μ) cal_X10_in lk10_45 (by decide +kernel) rfl (by decide +kernel) rfl rfl (Nat.le_of_ble_eq_true rfl) (by decide) (by decide) (fun _ _ h9 => h9.elim) ?_
  rintro _ _ ⟨rfl, h9⟩; rw [h9]; clear h9
  show pm_V _ _ _ _ 13 _ [.int (lr_b (lr_in x 0 ((nI (lr_n g 2)) - 1)))] _
  exact pm_iret (ty := .boolean) rfl (lr_bnar _) (by decide) (by decide) (by decide +kernel) (⟨by rw [lr_in_be (by omega)], rfl⟩)
set_option maxHeartbeats 4000000 in
set_option maxRecDepth 100000 in
theorem c_X10_isPerson {g : Nat → Int32} (x : Int32) (μ : pm_Mm) (hM : μ.1 48 = g) (hG : lr_G g) : pm_CT mi_X10_isPerson [.ref 47, .int x] μ (fun v μ2 => v = some (.int (lr_b (lr_be x (nI (lr_n g 35))))) ∧ μ2 = μ) pm_NX := by
  refine pm_CT_of (lo := [some (.ref 47), some (.int x)]) (by decide +kernel) rfl rfl (by intro v hv; simp at hv; rcases hv with rfl | rfl <;> rfl) (Nat.le_of_ble_eq_true rfl) rfl ?_
  have hm1 := lr_mh hG; have hm2 := lr_mw hG; have hm3 := lr_mp hG; have hm4 := lr_mr hG; have hm5 := lr_ma hG; have hm6 := lr_ml hG
  refine pm_bl [(.iload_n 1, 1, 1, 0, 0), (.iconst 0, 1, 0, 0, 0), (.aload_n 0, 1, 0, 0, 0), (.getfield 7, 3, 10, 0, 0), (.bipush 35, 2, 0, 0, 35), (.iaload, 1, 0, 0, 0)] (pc1 := 9) (lo1 := [some (.ref 47), some (.int x)]) (st1 := [.int (μ.1 48 (35 : Int32).toNatClampNeg), .int 0, .int x]) (μ1 := μ) (vc := vp_in 35 620 ∧ True) rfl (by decide +kernel) rfl ⟨(by unfold vp_in; decide), trivial⟩ ?_
  rw [show (35 : Int32).toNatClampNeg = 35 from by decide, hM, lr_gp hG]
  refine pm_bl [(.iconst 1, 1, 0, 0, 1), (.isub, 1, 0, 0, 0)] (pc1 := 11) (lo1 := [some (.ref 47), some (.int x)]) (st1 := [.int ((nI (lr_n g 35)) - 1), .int 0, .int x]) (μ1 := μ) (vc := True) rfl (by decide +kernel) rfl trivial ?_
  refine pm_callS2 mi_X10_in (ix := 45) (kc2 := 0) (ks2 := 0) (As := [.int x, .int 0, .int ((nI (lr_n g 35)) - 1)]) (rest := []) (c_X10_in x 0 ((nI (lr_n g 35)) - 1) μ) cal_X10_in lk10_45 (by decide +kernel) rfl (by decide +kernel) rfl rfl (Nat.le_of_ble_eq_true rfl) (by decide) (by decide) (fun _ _ h9 => h9.elim) ?_
  rintro _ _ ⟨rfl, h9⟩; rw [h9]; clear h9
  show pm_V _ _ _ _ 14 _ [.int (lr_b (lr_in x 0 ((nI (lr_n g 35)) - 1)))] _
  exact pm_iret (ty := .boolean) rfl (lr_bnar _) (by decide) (by decide) (by decide +kernel) (⟨by rw [lr_in_be (by omega)], rfl⟩)
set_option maxHeartbeats 4000000 in
set_option maxRecDepth 100000 in
theorem c_X10_isLetter {g : Nat → Int32} (x : Int32) (μ : pm_Mm) (hM : μ.1 48 = g) (hG : lr_G g) : pm_CT mi_X10_isLetter [.ref 47, .int x] μ (fun v μ2 => v = some (.int (lr_b (lr_be x (nI (lr_n g 289))))) ∧ μ2 = μ) pm_NX := by
  refine pm_CT_of (lo := [some (.ref 47), some (.int x)]) (by decide +kernel) rfl rfl (by intro v hv; simp at hv; rcases hv with rfl | rfl <;> rfl) (Nat.le_of_ble_eq_true rfl) rfl ?_
  have hm1 := lr_mh hG; have hm2 := lr_mw hG; have hm3 := lr_mp hG; have hm4 := lr_mr hG; have hm5 := lr_ma hG; have hm6 := lr_ml hG
  refine pm_bl [(.iload_n 1, 1, 1, 0, 0), (.iconst 0, 1, 0, 0, 0), (.aload_n 0, 1, 0, 0, 0), (.getfield 7, 3, 10, 0, 0), (.sipush 289, 3, 0, 0, 289), (.iaload, 1, 0, 0, 0)] (pc1 := 10) (lo1 := [some (.ref 47), some (.int x)]) (st1 := [.int (μ.1 48 (289 : Int32).toNatClampNeg), .int 0, .int x]) (μ1 := μ) (vc := vp_in 289 620 ∧ True) rfl (by decide +kernel) rfl ⟨(by unfold vp_in; decide), trivial⟩ ?_
  rw [show (289 : Int32).toNatClampNeg = 289 from by decide, hM, lr_gl hG]
  refine pm_bl [(.iconst 1, 1, 0, 0, 1), (.isub, 1, 0, 0, 0)] (pc1 := 12) (lo1 := [some (.ref 47), some (.int x)]) (st1 := [.int ((nI (lr_n g 289)) - 1), .int 0, .int x]) (μ1 := μ) (vc := True) rfl (by decide +kernel) rfl trivial ?_
  refine pm_callS2 mi_X10_in (ix := 45) (kc2 := 0) (ks2 := 0) (As := [.int x, .int 0, .int ((nI (lr_n g 289)) - 1)]) (rest := []) (c_X10_in x 0 ((nI (lr_n g 289)) - 1) μ) cal_X10_in lk10_45 (by decide +kernel) rfl (by decide +kernel) rfl rfl (Nat.le_of_ble_eq_true rfl) (by decide) (by decide) (fun _ _ h9 => h9.elim) ?_
  rintro _ _ ⟨rfl, h9⟩; rw [h9]; clear h9
  show pm_V _ _ _ _ 15 _ [.int (lr_b (lr_in x 0 ((nI (lr_n g 289)) - 1)))] _
  exact pm_iret (ty := .boolean) rfl (lr_bnar _) (by decide) (by decide) (by decide +kernel) (⟨by rw [lr_in_be (by omega)], rfl⟩)
set_option maxHeartbeats 4000000 in
set_option maxRecDepth 100000 in
theorem c_X10_streetOf {g : Nat → Int32} {h : Nat} (μ : pm_Mm) (hM : μ.1 48 = g) (hh : h < 100) : pm_CT mi_X10_streetOf [.ref 47, .int (nI h)] μ (fun v μ2 => v = some (.int (g (3 + 2 * h))) ∧ μ2 = μ) pm_NX := by
  refine pm_CT_of (lo := [some (.ref 47), some (.int (nI h))]) (by decide +kernel) rfl rfl (by intro v hv; simp at hv; rcases hv with rfl | rfl <;> rfl) (Nat.le_of_ble_eq_true rfl) rfl ?_
  refine pm_bl [(.aload_n 0, 1, 0, 0, 0), (.getfield 7, 3, 10, 0, 0), (.iconst 3, 1, 0, 0, 3), (.iconst 2, 1, 0, 0, 2), (.iload_n 1, 1, 1, 0, 0), (.imul, 1, 0, 0, 0), (.iadd, 1, 0, 0, 0)] (pc1 := 9) (lo1 := [some (.ref 47), some (.int (nI h))]) (st1 := [.int (3 + (2 * (nI h))), .ref 48]) (μ1 := μ) (vc := True) rfl (by decide +kernel) rfl trivial ?_
  rw [(show (3 + (2 * (nI h)) : Int32) = nI (3 + (2 * (h))) from by simp only [nI, Int32.ofNat_add, Int32.ofNat_mul]; rfl).trans (congrArg nI (show 3 + (2 * (h)) = 3 + 2 * h from by omega))]
  refine pm_bl [(.iaload, 1, 0, 0, 0)] (pc1 := 10) (lo1 := [some (.ref 47), some (.int (nI h))]) (st1 := [.int (μ.1 48 (nI (3 + 2 * h)).toNatClampNeg)]) (μ1 := μ) (vc := vp_in (nI (3 + 2 * h)) 620 ∧ True) rfl (by decide +kernel) rfl ⟨(vp_in_nI (by omega) (by omega)), trivial⟩ ?_
  first | rw [nI_clamp (n := 3 + 2 * h) (by omega), hM] | rw [hM]
  exact pm_iret (ty := .int) rfl rfl (by decide) (by decide) (by decide +kernel) (⟨rfl, rfl⟩)
set_option maxHeartbeats 4000000 in
set_option maxRecDepth 100000 in
theorem c_X10_numberOf {g : Nat → Int32} {h : Nat} (μ : pm_Mm) (hM : μ.1 48 = g) (hh : h < 100) : pm_CT mi_X10_numberOf [.ref 47, .int (nI h)] μ (fun v μ2 => v = some (.int (g (4 + 2 * h))) ∧ μ2 = μ) pm_NX := by
  refine pm_CT_of (lo := [some (.ref 47), some (.int (nI h))]) (by decide +kernel) rfl rfl (by intro v hv; simp at hv; rcases hv with rfl | rfl <;> rfl) (Nat.le_of_ble_eq_true rfl) rfl ?_
  refine pm_bl [(.aload_n 0, 1, 0, 0, 0), (.getfield 7, 3, 10, 0, 0), (.iconst 3, 1, 0, 0, 3), (.iconst 2, 1, 0, 0, 2), (.iload_n 1, 1, 1, 0, 0), (.imul, 1, 0, 0, 0), (.iadd, 1, 0, 0, 0), (.iconst 1, 1, 0, 0, 1), (.iadd, 1, 0, 0, 0)] (pc1 := 11) (lo1 := [some (.ref 47), some (.int (nI h))]) (st1 := [.int ((3 + (2 * (nI h))) + 1), .ref 48]) (μ1 := μ) (vc := True) rfl (by decide +kernel) rfl trivial ?_
  rw [(show ((3 + (2 * (nI h))) + 1 : Int32) = nI ((3 + (2 * (h))) + 1) from by simp only [nI, Int32.ofNat_add, Int32.ofNat_mul]; rfl).trans (congrArg nI (show (3 + (2 * (h))) + 1 = 4 + 2 * h from by omega))]
  refine pm_bl [(.iaload, 1, 0, 0, 0)] (pc1 := 12) (lo1 := [some (.ref 47), some (.int (nI h))]) (st1 := [.int (μ.1 48 (nI (4 + 2 * h)).toNatClampNeg)]) (μ1 := μ) (vc := vp_in (nI (4 + 2 * h)) 620 ∧ True) rfl (by decide +kernel) rfl ⟨(vp_in_nI (by omega) (by omega)), trivial⟩ ?_
  first | rw [nI_clamp (n := 4 + 2 * h) (by omega), hM] | rw [hM]
  exact pm_iret (ty := .int) rfl rfl (by decide) (by decide) (by decide +kernel) (⟨rfl, rfl⟩)
set_option maxHeartbeats 4000000 in
set_option maxRecDepth 100000 in
theorem c_X10_houseOf {g : Nat → Int32} {h : Nat} (μ : pm_Mm) (hM : μ.1 48 = g) (hh : h < 100) : pm_CT mi_X10_houseOf [.ref 47, .int (nI h)] μ (fun v μ2 => v = some (.int (g (36 + 4 * h))) ∧ μ2 = μ) pm_NX := by
  refine pm_CT_of (lo := [some (.ref 47), some (.int (nI h))]) (by decide +kernel) rfl rfl (by intro v hv; simp at hv; rcases hv with rfl | rfl <;> rfl) (Nat.le_of_ble_eq_true rfl) rfl ?_
  refine pm_bl [(.aload_n 0, 1, 0, 0, 0), (.getfield 7, 3, 10, 0, 0), (.bipush 36, 2, 0, 0, 36), (.iconst 4, 1, 0, 0, 4), (.iload_n 1, 1, 1, 0, 0), (.imul, 1, 0, 0, 0), (.iadd, 1, 0, 0, 0)] (pc1 := 10) (lo1 := [some (.ref 47), some (.int (nI h))]) (st1 := [.int (36 + (4 * (nI h))), .ref 48]) (μ1 := μ) (vc := True) rfl (by decide +kernel) rfl trivial ?_
  rw [(show (36 + (4 * (nI h)) : Int32) = nI (36 + (4 * (h))) from by simp only [nI, Int32.ofNat_add, Int32.ofNat_mul]; rfl).trans (congrArg nI (show 36 + (4 * (h)) = 36 + 4 * h from by omega))]
  refine pm_bl [(.iaload, 1, 0, 0, 0)] (pc1 := 11) (lo1 := [some (.ref 47), some (.int (nI h))]) (st1 := [.int (μ.1 48 (nI (36 + 4 * h)).toNatClampNeg)]) (μ1 := μ) (vc := vp_in (nI (36 + 4 * h)) 620 ∧ True) rfl (by decide +kernel) rfl ⟨(vp_in_nI (by omega) (by omega)), trivial⟩ ?_
  first | rw [nI_clamp (n := 36 + 4 * h) (by omega), hM] | rw [hM]
  exact pm_iret (ty := .int) rfl rfl (by decide) (by decide) (by decide +kernel) (⟨rfl, rfl⟩)
def lr_dys (a b : Int32) : Bool := lr_in a 0 b && !(decide (365 < b))
set_option maxHeartbeats 4000000 in
set_option maxRecDepth 100000 in
theorem c_X10_areDays (a b : Int32) (μ : pm_Mm) : pm_CT mi_X10_areDays [.int a, .int b] μ (fun v μ2 => v = some (.int (lr_b (lr_dys a b))) ∧ μ2 = μ) pm_NX := by
  refine pm_CT_of (lo := [some (.int a), some (.int b)]) (by decide +kernel) rfl rfl (by intro v hv; simp at hv; rcases hv with rfl | rfl <;> rfl) (Nat.le_of_ble_eq_true rfl) rfl ?_
  refine pm_bl [(.iload_n 0, 1, 0, 0, 0), (.iconst 0, 1, 0, 0, 0), (.iload_n 1, 1, 1, 0, 0)] (pc1 := 3) (lo1 := [some (.int a), some (.int b)]) (st1 := [.int b, .int 0, .int a]) (μ1 := μ) (vc := True) rfl (by decide +kernel) rfl trivial ?_
  refine pm_callS2 mi_X10_in (ix := 45) (kc2 := 0) (ks2 := 0) (As := [.int a, .int 0, .int b]) (rest := []) (c_X10_in a 0 b μ) cal_X10_in lk10_45 (by decide +kernel) rfl (by decide +kernel) rfl rfl (Nat.le_of_ble_eq_true rfl) (by decide) (by decide) (fun _ _ h9 => h9.elim) ?_
  rintro _ _ ⟨rfl, h9⟩; rw [h9]; clear h9
  show pm_V _ _ _ _ 6 _ [.int (lr_b (lr_in a 0 b))] _
  refine pm_ifb_eq (off := 14) 20 (by decide +kernel) (by decide) (fun (h6 : (lr_in a 0 b) = false) => ?_) (fun (h6 : (lr_in a 0 b) = true) => ?_)
  · refine pm_bl [(.iconst 0, 1, 0, 0, 0)] (pc1 := 21) (lo1 := [some (.int a), some (.int b)]) (st1 := [.int 0]) (μ1 := μ) (vc := True) rfl (by decide +kernel) rfl trivial ?_
    exact pm_iret (ty := .boolean) rfl (rfl) (by decide) (by decide) (by decide +kernel) (⟨by congr 2; simp [lr_dys, *]; rfl, rfl⟩)
  · refine pm_bl [(.iload_n 1, 1, 1, 0, 0), (.sipush 365, 3, 0, 0, 365)] (pc1 := 13) (lo1 := [some (.int a), some (.int b)]) (st1 := [.int 365, .int b]) (μ1 := μ) (vc := True) rfl (by decide +kernel) rfl trivial ?_
    refine pm_icmp_gt (off := 7) 20 (by decide +kernel) (by decide) (fun (h13 : 365 < b) => ?_) (fun (h13 : ¬ (365 < b)) => ?_)
    · refine pm_bl [(.iconst 0, 1, 0, 0, 0)] (pc1 := 21) (lo1 := [some (.int a), some (.int b)]) (st1 := [.int 0]) (μ1 := μ) (vc := True) rfl (by decide +kernel) rfl trivial ?_
      exact pm_iret (ty := .boolean) rfl (rfl) (by decide) (by decide) (by decide +kernel) (⟨by congr 2; simp [lr_dys, *]; rfl, rfl⟩)
    · refine pm_bl [(.iconst 1, 1, 0, 0, 1), (.goto 4, 3, 21, 0, 0)] (pc1 := 21) (lo1 := [some (.int a), some (.int b)]) (st1 := [.int 1]) (μ1 := μ) (vc := True) rfl (by decide +kernel) rfl trivial ?_
      exact pm_iret (ty := .boolean) rfl (rfl) (by decide) (by decide) (by decide +kernel) (⟨by congr 2; simp [lr_dys, *]; rfl, rfl⟩)
theorem lr_par_eq {n : Nat} (h : n ≤ 99) : nI n - nI n / 2 * 2 = lr_par (nI n) := by
  have : ∀ k, k ≤ 99 → nI k - nI k / 2 * 2 = lr_par (nI k) := by decide +kernel
  exact this n h
set_option maxHeartbeats 4000000 in
set_option maxRecDepth 100000 in
theorem c_X10_couldServe {g : Nat → Int32} {u h : Nat} (μ : pm_Mm) (hM : μ.1 48 = g) (hG : lr_G g) (hv : u < lr_n g 116) (hh : h < lr_n g 2) : pm_CT mi_X10_couldServe [.ref 47, .int (nI u), .int (nI h)] μ (fun v μ2 => v = some (.int (lr_b (lr_cs g (g (3 + 2 * h)) (g (4 + 2 * h)) u))) ∧ μ2 = μ) pm_NX := by
  refine pm_CT_of (lo := [some (.ref 47), some (.int (nI u)), some (.int (nI h)), none]) (by decide +kernel) rfl rfl (by intro v hv; simp at hv; rcases hv with rfl | rfl | rfl <;> rfl) (Nat.le_of_ble_eq_true rfl) rfl ?_
  have hm1 := lr_mh hG; have hm2 := lr_mw hG; have hm3 := lr_mp hG; have hm4 := lr_mr hG; have hm5 := lr_ma hG; have hm6 := lr_ml hG
  obtain ⟨sa, sb, hsa, -, hsb, -, hsb2⟩ := lr_G_h hG hh
  have hpar := lr_par_eq hsb2
  rw [← hsb] at hpar
  refine pm_bl [(.bipush 117, 2, 0, 0, 117), (.iconst 5, 1, 0, 0, 5), (.iload_n 1, 1, 1, 0, 0), (.imul, 1, 0, 0, 0), (.iadd, 1, 0, 0, 0), (.istore_n 3, 1, 3, 0, 0), (.aload_n 0, 1, 0, 0, 0), (.getfield 7, 3, 10, 0, 0), (.iload_n 3, 1, 3, 0, 0)] (pc1 := 12) (lo1 := [some (.ref 47), some (.int (nI u)), some (.int (nI h)), some (.int (117 + (5 * (nI u))))]) (st1 := [.int (117 + (5 * (nI u))), .ref 48]) (μ1 := μ) (vc := True) rfl (by decide +kernel) rfl trivial ?_
  rw [(show (117 + (5 * (nI u)) : Int32) = nI (117 + (5 * (u))) from by simp only [nI, Int32.ofNat_add, Int32.ofNat_mul]; rfl).trans (congrArg nI (show 117 + (5 * (u)) = 117 + 5 * u from by omega))]
  refine pm_bl [(.iaload, 1, 0, 0, 0)] (pc1 := 13) (lo1 := [some (.ref 47), some (.int (nI u)), some (.int (nI h)), some (.int (nI (117 + 5 * u)))]) (st1 := [.int (μ.1 48 (nI (117 + 5 * u)).toNatClampNeg)]) (μ1 := μ) (vc := vp_in (nI (117 + 5 * u)) 620 ∧ True) rfl (by decide +kernel) rfl ⟨(vp_in_nI (by omega) (by omega)), trivial⟩ ?_
  first | rw [nI_clamp (n := 117 + 5 * u) (by omega), hM] | rw [hM]
  refine pm_bl [(.aload_n 0, 1, 0, 0, 0), (.iload_n 2, 1, 2, 0, 0)] (pc1 := 15) (lo1 := [some (.ref 47), some (.int (nI u)), some (.int (nI h)), some (.int (nI (117 + 5 * u)))]) (st1 := [.int (nI h), .ref 47, .int (g (117 + 5 * u))]) (μ1 := μ) (vc := True) rfl (by decide +kernel) rfl trivial ?_
  refine pm_callV2 mi_X10_streetOf (ix := 60) (b := 47) (ci := 10) (kc2 := 0) (ks2 := 0) (As := [.int (nI h)]) (rest := [.int (g (117 + 5 * u))]) (c_X10_streetOf (h := h) μ hM (by omega)) cal_X10_streetOf lk10_60 (by decide +kernel) rfl (by decide +kernel) rfl rfl rfl rfl (Nat.le_of_ble_eq_true rfl) (by decide) (by decide) (fun _ _ h9 => h9.elim) ?_
  rintro _ _ ⟨rfl, h9⟩; rw [h9]; clear h9
  show pm_V _ _ _ _ 18 _ [.int (g (3 + 2 * h)), .int (g (117 + 5 * u))] _
  refine pm_icmp_ne (off := 64) 82 (by decide +kernel) (by decide) (fun (h18 : ¬ (g (117 + 5 * u)) = (g (3 + 2 * h))) => ?_) (fun (h18 : (g (117 + 5 * u)) = (g (3 + 2 * h))) => ?_)
  · refine pm_bl [(.iconst 0, 1, 0, 0, 0)] (pc1 := 83) (lo1 := [some (.ref 47), some (.int (nI u)), some (.int (nI h)), some (.int (nI (117 + 5 * u)))]) (st1 := [.int 0]) (μ1 := μ) (vc := True) rfl (by decide +kernel) rfl trivial ?_
    exact pm_iret (ty := .boolean) rfl (rfl) (by decide) (by decide) (by decide +kernel) (⟨by congr 2; simp_all [lr_cs, lr_b], rfl⟩)
  · refine pm_bl [(.aload_n 0, 1, 0, 0, 0), (.getfield 7, 3, 10, 0, 0), (.iload_n 3, 1, 3, 0, 0), (.iconst 1, 1, 0, 0, 1), (.iadd, 1, 0, 0, 0)] (pc1 := 28) (lo1 := [some (.ref 47), some (.int (nI u)), some (.int (nI h)), some (.int (nI (117 + 5 * u)))]) (st1 := [.int ((nI (117 + 5 * u)) + 1), .ref 48]) (μ1 := μ) (vc := True) rfl (by decide +kernel) rfl trivial ?_
    rw [(show ((nI (117 + 5 * u)) + 1 : Int32) = nI (((117 + 5 * u)) + 1) from by simp only [nI, Int32.ofNat_add, Int32.ofNat_mul]; rfl).trans (congrArg nI (show ((117 + 5 * u)) + 1 = 118 + 5 * u from by omega))]
    refine pm_bl [(.iaload, 1, 0, 0, 0)] (pc1 := 29) (lo1 := [some (.ref 47), some (.int (nI u)), some (.int (nI h)), some (.int (nI (117 + 5 * u)))]) (st1 := [.int (μ.1 48 (nI (118 + 5 * u)).toNatClampNeg)]) (μ1 := μ) (vc := vp_in (nI (118 + 5 * u)) 620 ∧ True) rfl (by decide +kernel) rfl ⟨(vp_in_nI (by omega) (by omega)), trivial⟩ ?_
    first | rw [nI_clamp (n := 118 + 5 * u) (by omega), hM] | rw [hM]
    refine pm_bl [(.iconst 2, 1, 0, 0, 2)] (pc1 := 30) (lo1 := [some (.ref 47), some (.int (nI u)), some (.int (nI h)), some (.int (nI (117 + 5 * u)))]) (st1 := [.int 2, .int (g (118 + 5 * u))]) (μ1 := μ) (vc := True) rfl (by decide +kernel) rfl trivial ?_
    refine pm_icmp_eq (off := 21) 51 (by decide +kernel) (by decide) (fun (h30 : (g (118 + 5 * u)) = 2) => ?_) (fun (h30 : ¬ ((g (118 + 5 * u)) = 2)) => ?_)
    · refine pm_bl [(.aload_n 0, 1, 0, 0, 0), (.iload_n 2, 1, 2, 0, 0)] (pc1 := 53) (lo1 := [some (.ref 47), some (.int (nI u)), some (.int (nI h)), some (.int (nI (117 + 5 * u)))]) (st1 := [.int (nI h), .ref 47]) (μ1 := μ) (vc := True) rfl (by decide +kernel) rfl trivial ?_
      refine pm_callV2 mi_X10_numberOf (ix := 63) (b := 47) (ci := 10) (kc2 := 0) (ks2 := 0) (As := [.int (nI h)]) (rest := []) (c_X10_numberOf (h := h) μ hM (by omega)) cal_X10_numberOf lk10_63 (by decide +kernel) rfl (by decide +kernel) rfl rfl rfl rfl (Nat.le_of_ble_eq_true rfl) (by decide) (by decide) (fun _ _ h9 => h9.elim) ?_
      rintro _ _ ⟨rfl, h9⟩; rw [h9]; clear h9
      show pm_V _ _ _ _ 56 _ [.int (g (4 + 2 * h))] _
      refine pm_bl [(.aload_n 0, 1, 0, 0, 0), (.getfield 7, 3, 10, 0, 0), (.iload_n 3, 1, 3, 0, 0), (.iconst 3, 1, 0, 0, 3), (.iadd, 1, 0, 0, 0)] (pc1 := 63) (lo1 := [some (.ref 47), some (.int (nI u)), some (.int (nI h)), some (.int (nI (117 + 5 * u)))]) (st1 := [.int ((nI (117 + 5 * u)) + 3), .ref 48, .int (g (4 + 2 * h))]) (μ1 := μ) (vc := True) rfl (by decide +kernel) rfl trivial ?_
      rw [(show ((nI (117 + 5 * u)) + 3 : Int32) = nI (((117 + 5 * u)) + 3) from by simp only [nI, Int32.ofNat_add, Int32.ofNat_mul]; rfl).trans (congrArg nI (show ((117 + 5 * u)) + 3 = 120 + 5 * u from by omega))]
      refine pm_bl [(.iaload, 1, 0, 0, 0)] (pc1 := 64) (lo1 := [some (.ref 47), some (.int (nI u)), some (.int (nI h)), some (.int (nI (117 + 5 * u)))]) (st1 := [.int (μ.1 48 (nI (120 + 5 * u)).toNatClampNeg), .int (g (4 + 2 * h))]) (μ1 := μ) (vc := vp_in (nI (120 + 5 * u)) 620 ∧ True) rfl (by decide +kernel) rfl ⟨(vp_in_nI (by omega) (by omega)), trivial⟩ ?_
      first | rw [nI_clamp (n := 120 + 5 * u) (by omega), hM] | rw [hM]
      refine pm_bl [(.aload_n 0, 1, 0, 0, 0), (.getfield 7, 3, 10, 0, 0), (.iload_n 3, 1, 3, 0, 0), (.iconst 4, 1, 0, 0, 4), (.iadd, 1, 0, 0, 0)] (pc1 := 71) (lo1 := [some (.ref 47), some (.int (nI u)), some (.int (nI h)), some (.int (nI (117 + 5 * u)))]) (st1 := [.int ((nI (117 + 5 * u)) + 4), .ref 48, .int (g (120 + 5 * u)), .int (g (4 + 2 * h))]) (μ1 := μ) (vc := True) rfl (by decide +kernel) rfl trivial ?_
      rw [(show ((nI (117 + 5 * u)) + 4 : Int32) = nI (((117 + 5 * u)) + 4) from by simp only [nI, Int32.ofNat_add, Int32.ofNat_mul]; rfl).trans (congrArg nI (show ((117 + 5 * u)) + 4 = 121 + 5 * u from by omega))]
      refine pm_bl [(.iaload, 1, 0, 0, 0)] (pc1 := 72) (lo1 := [some (.ref 47), some (.int (nI u)), some (.int (nI h)), some (.int (nI (117 + 5 * u)))]) (st1 := [.int (μ.1 48 (nI (121 + 5 * u)).toNatClampNeg), .int (g (120 + 5 * u)), .int (g (4 + 2 * h))]) (μ1 := μ) (vc := vp_in (nI (121 + 5 * u)) 620 ∧ True) rfl (by decide +kernel) rfl ⟨(vp_in_nI (by omega) (by omega)), trivial⟩ ?_
      first | rw [nI_clamp (n := 121 + 5 * u) (by omega), hM] | rw [hM]
      refine pm_callS2 mi_X10_in (ix := 45) (kc2 := 0) (ks2 := 0) (As := [.int (g (4 + 2 * h)), .int (g (120 + 5 * u)), .int (g (121 + 5 * u))]) (rest := []) (c_X10_in (g (4 + 2 * h)) (g (120 + 5 * u)) (g (121 + 5 * u)) μ) cal_X10_in lk10_45 (by decide +kernel) rfl (by decide +kernel) rfl rfl (Nat.le_of_ble_eq_true rfl) (by decide) (by decide) (fun _ _ h9 => h9.elim) ?_
      rintro _ _ ⟨rfl, h9⟩; rw [h9]; clear h9
      show pm_V _ _ _ _ 75 _ [.int (lr_b (lr_in (g (4 + 2 * h)) (g (120 + 5 * u)) (g (121 + 5 * u))))] _
      refine pm_ifb_eq (off := 7) 82 (by decide +kernel) (by decide) (fun (h75 : (lr_in (g (4 + 2 * h)) (g (120 + 5 * u)) (g (121 + 5 * u))) = false) => ?_) (fun (h75 : (lr_in (g (4 + 2 * h)) (g (120 + 5 * u)) (g (121 + 5 * u))) = true) => ?_)
      · refine pm_bl [(.iconst 0, 1, 0, 0, 0)] (pc1 := 83) (lo1 := [some (.ref 47), some (.int (nI u)), some (.int (nI h)), some (.int (nI (117 + 5 * u)))]) (st1 := [.int 0]) (μ1 := μ) (vc := True) rfl (by decide +kernel) rfl trivial ?_
        exact pm_iret (ty := .boolean) rfl (rfl) (by decide) (by decide) (by decide +kernel) (⟨by congr 2; simp_all [lr_cs, lr_b], rfl⟩)
      · refine pm_bl [(.iconst 1, 1, 0, 0, 1), (.goto 4, 3, 83, 0, 0)] (pc1 := 83) (lo1 := [some (.ref 47), some (.int (nI u)), some (.int (nI h)), some (.int (nI (117 + 5 * u)))]) (st1 := [.int 1]) (μ1 := μ) (vc := True) rfl (by decide +kernel) rfl trivial ?_
        exact pm_iret (ty := .boolean) rfl (rfl) (by decide) (by decide) (by decide +kernel) (⟨by congr 2; simp_all [lr_cs, lr_b], rfl⟩)
    · refine pm_bl [(.aload_n 0, 1, 0, 0, 0), (.getfield 7, 3, 10, 0, 0), (.iload_n 3, 1, 3, 0, 0), (.iconst 1, 1, 0, 0, 1), (.iadd, 1, 0, 0, 0)] (pc1 := 40) (lo1 := [some (.ref 47), some (.int (nI u)), some (.int (nI h)), some (.int (nI (117 + 5 * u)))]) (st1 := [.int ((nI (117 + 5 * u)) + 1), .ref 48]) (μ1 := μ) (vc := True) rfl (by decide +kernel) rfl trivial ?_
      rw [(show ((nI (117 + 5 * u)) + 1 : Int32) = nI (((117 + 5 * u)) + 1) from by simp only [nI, Int32.ofNat_add, Int32.ofNat_mul]; rfl).trans (congrArg nI (show ((117 + 5 * u)) + 1 = 118 + 5 * u from by omega))]
      refine pm_bl [(.iaload, 1, 0, 0, 0)] (pc1 := 41) (lo1 := [some (.ref 47), some (.int (nI u)), some (.int (nI h)), some (.int (nI (117 + 5 * u)))]) (st1 := [.int (μ.1 48 (nI (118 + 5 * u)).toNatClampNeg)]) (μ1 := μ) (vc := vp_in (nI (118 + 5 * u)) 620 ∧ True) rfl (by decide +kernel) rfl ⟨(vp_in_nI (by omega) (by omega)), trivial⟩ ?_
      first | rw [nI_clamp (n := 118 + 5 * u) (by omega), hM] | rw [hM]
      refine pm_bl [(.aload_n 0, 1, 0, 0, 0), (.iload_n 2, 1, 2, 0, 0)] (pc1 := 43) (lo1 := [some (.ref 47), some (.int (nI u)), some (.int (nI h)), some (.int (nI (117 + 5 * u)))]) (st1 := [.int (nI h), .ref 47, .int (g (118 + 5 * u))]) (μ1 := μ) (vc := True) rfl (by decide +kernel) rfl trivial ?_
      refine pm_callV2 mi_X10_numberOf (ix := 63) (b := 47) (ci := 10) (kc2 := 0) (ks2 := 0) (As := [.int (nI h)]) (rest := [.int (g (118 + 5 * u))]) (c_X10_numberOf (h := h) μ hM (by omega)) cal_X10_numberOf lk10_63 (by decide +kernel) rfl (by decide +kernel) rfl rfl rfl rfl (Nat.le_of_ble_eq_true rfl) (by decide) (by decide) (fun _ _ h9 => h9.elim) ?_
      rintro _ _ ⟨rfl, h9⟩; rw [h9]; clear h9
      show pm_V _ _ _ _ 46 _ [.int (g (4 + 2 * h)), .int (g (118 + 5 * u))] _
      refine pm_bl [(.iconst 2, 1, 0, 0, 2)] (pc1 := 47) (lo1 := [some (.ref 47), some (.int (nI u)), some (.int (nI h)), some (.int (nI (117 + 5 * u)))]) (st1 := [.int 2, .int (g (4 + 2 * h)), .int (g (118 + 5 * u))]) (μ1 := μ) (vc := True) rfl (by decide +kernel) rfl trivial ?_
      refine pm_bl [(.irem, 1, 0, 0, 0)] (pc1 := 48) (lo1 := [some (.ref 47), some (.int (nI u)), some (.int (nI h)), some (.int (nI (117 + 5 * u)))]) (st1 := [.int ((g (4 + 2 * h)) - (g (4 + 2 * h)) / 2 * 2), .int (g (118 + 5 * u))]) (μ1 := μ) (vc := (¬ 2 = 0) ∧ True) rfl (by decide +kernel) rfl ⟨(by decide), trivial⟩ ?_
      refine pm_icmp_ne (off := 34) 82 (by decide +kernel) (by decide) (fun (h48 : ¬ (g (118 + 5 * u)) = ((g (4 + 2 * h)) - (g (4 + 2 * h)) / 2 * 2)) => ?_) (fun (h48 : (g (118 + 5 * u)) = ((g (4 + 2 * h)) - (g (4 + 2 * h)) / 2 * 2)) => ?_)
      · refine pm_bl [(.iconst 0, 1, 0, 0, 0)] (pc1 := 83) (lo1 := [some (.ref 47), some (.int (nI u)), some (.int (nI h)), some (.int (nI (117 + 5 * u)))]) (st1 := [.int 0]) (μ1 := μ) (vc := True) rfl (by decide +kernel) rfl trivial ?_
        exact pm_iret (ty := .boolean) rfl (rfl) (by decide) (by decide) (by decide +kernel) (⟨by congr 2; simp_all [lr_cs, lr_b], rfl⟩)
      · refine pm_bl [(.aload_n 0, 1, 0, 0, 0), (.iload_n 2, 1, 2, 0, 0)] (pc1 := 53) (lo1 := [some (.ref 47), some (.int (nI u)), some (.int (nI h)), some (.int (nI (117 + 5 * u)))]) (st1 := [.int (nI h), .ref 47]) (μ1 := μ) (vc := True) rfl (by decide +kernel) rfl trivial ?_
        refine pm_callV2 mi_X10_numberOf (ix := 63) (b := 47) (ci := 10) (kc2 := 0) (ks2 := 0) (As := [.int (nI h)]) (rest := []) (c_X10_numberOf (h := h) μ hM (by omega)) cal_X10_numberOf lk10_63 (by decide +kernel) rfl (by decide +kernel) rfl rfl rfl rfl (Nat.le_of_ble_eq_true rfl) (by decide) (by decide) (fun _ _ h9 => h9.elim) ?_
        rintro _ _ ⟨rfl, h9⟩; rw [h9]; clear h9
        show pm_V _ _ _ _ 56 _ [.int (g (4 + 2 * h))] _
        refine pm_bl [(.aload_n 0, 1, 0, 0, 0), (.getfield 7, 3, 10, 0, 0), (.iload_n 3, 1, 3, 0, 0), (.iconst 3, 1, 0, 0, 3), (.iadd, 1, 0, 0, 0)] (pc1 := 63) (lo1 := [some (.ref 47), some (.int (nI u)), some (.int (nI h)), some (.int (nI (117 + 5 * u)))]) (st1 := [.int ((nI (117 + 5 * u)) + 3), .ref 48, .int (g (4 + 2 * h))]) (μ1 := μ) (vc := True) rfl (by decide +kernel) rfl trivial ?_
        rw [(show ((nI (117 + 5 * u)) + 3 : Int32) = nI (((117 + 5 * u)) + 3) from by simp only [nI, Int32.ofNat_add, Int32.ofNat_mul]; rfl).trans (congrArg nI (show ((117 + 5 * u)) + 3 = 120 + 5 * u from by omega))]
        refine pm_bl [(.iaload, 1, 0, 0, 0)] (pc1 := 64) (lo1 := [some (.ref 47), some (.int (nI u)), some (.int (nI h)), some (.int (nI (117 + 5 * u)))]) (st1 := [.int (μ.1 48 (nI (120 + 5 * u)).toNatClampNeg), .int (g (4 + 2 * h))]) (μ1 := μ) (vc := vp_in (nI (120 + 5 * u)) 620 ∧ True) rfl (by decide +kernel) rfl ⟨(vp_in_nI (by omega) (by omega)), trivial⟩ ?_
        first | rw [nI_clamp (n := 120 + 5 * u) (by omega), hM] | rw [hM]
        refine pm_bl [(.aload_n 0, 1, 0, 0, 0), (.getfield 7, 3, 10, 0, 0), (.iload_n 3, 1, 3, 0, 0), (.iconst 4, 1, 0, 0, 4), (.iadd, 1, 0, 0, 0)] (pc1 := 71) (lo1 := [some (.ref 47), some (.int (nI u)), some (.int (nI h)), some (.int (nI (117 + 5 * u)))]) (st1 := [.int ((nI (117 + 5 * u)) + 4), .ref 48, .int (g (120 + 5 * u)), .int (g (4 + 2 * h))]) (μ1 := μ) (vc := True) rfl (by decide +kernel) rfl trivial ?_
        rw [(show ((nI (117 + 5 * u)) + 4 : Int32) = nI (((117 + 5 * u)) + 4) from by simp only [nI, Int32.ofNat_add, Int32.ofNat_mul]; rfl).trans (congrArg nI (show ((117 + 5 * u)) + 4 = 121 + 5 * u from by omega))]
        refine pm_bl [(.iaload, 1, 0, 0, 0)] (pc1 := 72) (lo1 := [some (.ref 47), some (.int (nI u)), some (.int (nI h)), some (.int (nI (117 + 5 * u)))]) (st1 := [.int (μ.1 48 (nI (121 + 5 * u)).toNatClampNeg), .int (g (120 + 5 * u)), .int (g (4 + 2 * h))]) (μ1 := μ) (vc := vp_in (nI (121 + 5 * u)) 620 ∧ True) rfl (by decide +kernel) rfl ⟨(vp_in_nI (by omega) (by omega)), trivial⟩ ?_
        first | rw [nI_clamp (n := 121 + 5 * u) (by omega), hM] | rw [hM]
        refine pm_callS2 mi_X10_in (ix := 45) (kc2 := 0) (ks2 := 0) (As := [.int (g (4 + 2 * h)), .int (g (120 + 5 * u)), .int (g (121 + 5 * u))]) (rest := []) (c_X10_in (g (4 + 2 * h)) (g (120 + 5 * u)) (g (121 + 5 * u)) μ) cal_X10_in lk10_45 (by decide +kernel) rfl (by decide +kernel) rfl rfl (Nat.le_of_ble_eq_true rfl) (by decide) (by decide) (fun _ _ h9 => h9.elim) ?_
        rintro _ _ ⟨rfl, h9⟩; rw [h9]; clear h9
        show pm_V _ _ _ _ 75 _ [.int (lr_b (lr_in (g (4 + 2 * h)) (g (120 + 5 * u)) (g (121 + 5 * u))))] _
        refine pm_ifb_eq (off := 7) 82 (by decide +kernel) (by decide) (fun (h75 : (lr_in (g (4 + 2 * h)) (g (120 + 5 * u)) (g (121 + 5 * u))) = false) => ?_) (fun (h75 : (lr_in (g (4 + 2 * h)) (g (120 + 5 * u)) (g (121 + 5 * u))) = true) => ?_)
        · refine pm_bl [(.iconst 0, 1, 0, 0, 0)] (pc1 := 83) (lo1 := [some (.ref 47), some (.int (nI u)), some (.int (nI h)), some (.int (nI (117 + 5 * u)))]) (st1 := [.int 0]) (μ1 := μ) (vc := True) rfl (by decide +kernel) rfl trivial ?_
          exact pm_iret (ty := .boolean) rfl (rfl) (by decide) (by decide) (by decide +kernel) (⟨by congr 2; simp_all [lr_cs, lr_b], rfl⟩)
        · refine pm_bl [(.iconst 1, 1, 0, 0, 1), (.goto 4, 3, 83, 0, 0)] (pc1 := 83) (lo1 := [some (.ref 47), some (.int (nI u)), some (.int (nI h)), some (.int (nI (117 + 5 * u)))]) (st1 := [.int 1]) (μ1 := μ) (vc := True) rfl (by decide +kernel) rfl trivial ?_
          exact pm_iret (ty := .boolean) rfl (rfl) (by decide) (by decide) (by decide +kernel) (⟨by congr 2; simp_all [lr_cs, lr_b], rfl⟩)
set_option maxHeartbeats 4000000 in
set_option maxRecDepth 100000 in
theorem l_X10_serving {g : Nat → Int32} (h : Nat) (hh : h < lr_n g 2) (μ : pm_Mm) (hM : μ.1 48 = g) (hG : lr_G g) : ∀ n k : Nat, k + n = lr_n g 116 → lr_sv g h = lr_fst (lr_cs g (g (3 + 2 * h)) (g (4 + 2 * h))) n k → pm_V mi_X10_serving ((fun v μ2 => v = some (.int (lr_sv g h)) ∧ μ2 = μ), pm_NX, fun _ _ _ => True) 0 0 2 [some (.ref 47), some (.int (nI h)), some (.int (nI k))] [] μ := by
  have hm1 := lr_mh hG; have hm2 := lr_mw hG; have hm3 := lr_mp hG; have hm4 := lr_mr hG; have hm5 := lr_ma hG; have hm6 := lr_ml hG
  intro n
  induction n with
  | zero =>
    intro k hk he
    refine pm_bl [(.iload_n 2, 1, 2, 0, 0), (.aload_n 0, 1, 0, 0, 0), (.getfield 7, 3, 10, 0, 0), (.bipush 116, 2, 0, 0, 116), (.iaload, 1, 0, 0, 0)] (pc1 := 10) (lo1 := [some (.ref 47), some (.int (nI h)), some (.int (nI k))]) (st1 := [.int (μ.1 48 (116 : Int32).toNatClampNeg), .int (nI k)]) (μ1 := μ) (vc := vp_in 116 620 ∧ True) rfl (by decide +kernel) rfl ⟨(by unfold vp_in; decide), trivial⟩ ?_
    rw [show (116 : Int32).toNatClampNeg = 116 from by decide, hM, lr_gw hG]
    refine pm_icmp_ge (off := 20) 30 (by decide +kernel) (by decide) (fun (h10 : (nI (lr_n g 116)) ≤ (nI k)) => ?_) (fun (h9 : ¬ ((nI (lr_n g 116)) ≤ (nI k))) => absurd (nI_le (by omega) (by omega)) h9)
    refine pm_bl [(.iconst (-1), 1, 0, 0, (-1))] (pc1 := 31) (lo1 := [some (.ref 47), some (.int (nI h)), some (.int (nI k))]) (st1 := [.int (-1)]) (μ1 := μ) (vc := True) rfl (by decide +kernel) rfl trivial ?_
    exact pm_iret (ty := .int) rfl rfl (by decide) (by decide) (by decide +kernel) (⟨by rw [he]; rfl, rfl⟩)
  | succ n ih =>
    intro k hk he
    refine pm_bl [(.iload_n 2, 1, 2, 0, 0), (.aload_n 0, 1, 0, 0, 0), (.getfield 7, 3, 10, 0, 0), (.bipush 116, 2, 0, 0, 116), (.iaload, 1, 0, 0, 0)] (pc1 := 10) (lo1 := [some (.ref 47), some (.int (nI h)), some (.int (nI k))]) (st1 := [.int (μ.1 48 (116 : Int32).toNatClampNeg), .int (nI k)]) (μ1 := μ) (vc := vp_in 116 620 ∧ True) rfl (by decide +kernel) rfl ⟨(by unfold vp_in; decide), trivial⟩ ?_
    rw [show (116 : Int32).toNatClampNeg = 116 from by decide, hM, lr_gw hG]
    refine pm_icmp_ge (off := 20) 30 (by decide +kernel) (by decide) (fun (h9 : (nI (lr_n g 116)) ≤ (nI k)) => absurd h9 (nI_ge (by omega) (by omega))) (fun (h10 : ¬ ((nI (lr_n g 116)) ≤ (nI k))) => ?_)
    refine pm_bl [(.aload_n 0, 1, 0, 0, 0), (.iload_n 2, 1, 2, 0, 0), (.iload_n 1, 1, 1, 0, 0)] (pc1 := 16) (lo1 := [some (.ref 47), some (.int (nI h)), some (.int (nI k))]) (st1 := [.int (nI h), .int (nI k), .ref 47]) (μ1 := μ) (vc := True) rfl (by decide +kernel) rfl trivial ?_
    refine pm_callV2 mi_X10_couldServe (ix := 74) (b := 47) (ci := 10) (kc2 := 0) (ks2 := 0) (As := [.int (nI k), .int (nI h)]) (rest := []) (c_X10_couldServe (u := k) (h := h) μ hM hG (by omega) (by omega)) cal_X10_couldServe lk10_74 (by decide +kernel) rfl (by decide +kernel) rfl rfl rfl rfl (Nat.le_of_ble_eq_true rfl) (by decide) (by decide) (fun _ _ h9 => h9.elim) ?_
    rintro _ _ ⟨rfl, h9⟩; rw [h9]; clear h9
    show pm_V _ _ _ _ 19 _ [.int (lr_b (lr_cs g (g (3 + 2 * h)) (g (4 + 2 * h)) k))] _
    refine pm_ifb_eq (off := 5) 24 (by decide +kernel) (by decide) (fun (h19 : (lr_cs g (g (3 + 2 * h)) (g (4 + 2 * h)) k) = false) => ?_) (fun (h19 : (lr_cs g (g (3 + 2 * h)) (g (4 + 2 * h)) k) = true) => ?_)
    · refine pm_bl [(.iinc 2 1, 3, 2, 0, 1), (.goto (-25), 3, 2, 0, 0)] (pc1 := 2) (lo1 := [some (.ref 47), some (.int (nI h)), some (.int ((nI k) + 1))]) (st1 := []) (μ1 := μ) (vc := True) rfl (by decide +kernel) rfl trivial ?_
      rw [nI_1]; exact ih (k + 1) (by omega) (by rw [he]; simp only [lr_fst]; rw [if_neg (by simp_all)])
    · refine pm_bl [(.iload_n 2, 1, 2, 0, 0)] (pc1 := 23) (lo1 := [some (.ref 47), some (.int (nI h)), some (.int (nI k))]) (st1 := [.int (nI k)]) (μ1 := μ) (vc := True) rfl (by decide +kernel) rfl trivial ?_
      exact pm_iret (ty := .int) rfl rfl (by decide) (by decide) (by decide +kernel) (⟨by rw [he]; simp only [lr_fst]; rw [if_pos (by assumption)], rfl⟩)
set_option maxHeartbeats 4000000 in
set_option maxRecDepth 100000 in
theorem c_X10_serving {g : Nat → Int32} {h : Nat} (μ : pm_Mm) (hM : μ.1 48 = g) (hG : lr_G g) (hh : h < lr_n g 2) : pm_CT mi_X10_serving [.ref 47, .int (nI h)] μ (fun v μ2 => v = some (.int (lr_sv g h)) ∧ μ2 = μ) pm_NX := by
  refine pm_CT_of (lo := [some (.ref 47), some (.int (nI h)), none]) (by decide +kernel) rfl rfl (by intro v hv; simp at hv; rcases hv with rfl | rfl <;> rfl) (Nat.le_of_ble_eq_true rfl) rfl ?_
  refine pm_bl [(.iconst 0, 1, 0, 0, 0), (.istore_n 2, 1, 2, 0, 0)] (pc1 := 2) (lo1 := [some (.ref 47), some (.int (nI h)), some (.int 0)]) (st1 := []) (μ1 := μ) (vc := True) rfl (by decide +kernel) rfl trivial ?_
  exact l_X10_serving h hh μ hM hG (lr_n g 116) 0 (Nat.zero_add _) rfl
set_option maxHeartbeats 4000000 in
set_option maxRecDepth 100000 in
theorem l_X10_served {g : Nat → Int32} (wk : Int32) (μ : pm_Mm) (hM : μ.1 48 = g) (hG : lr_G g) : ∀ n k : Nat, ∀ x : Int32, k + n = lr_n g 2 → x = lr_sum (fun h => lr_b (decide (lr_sv g h = wk))) k → pm_V mi_X10_served ((fun v μ2 => v = some (.int (lr_svd g wk)) ∧ μ2 = μ), pm_NX, fun _ _ _ => True) 0 0 4 [some (.ref 47), some (.int wk), some (.int x), some (.int (nI k))] [] μ := by
  have hm1 := lr_mh hG; have hm2 := lr_mw hG; have hm3 := lr_mp hG; have hm4 := lr_mr hG; have hm5 := lr_ma hG; have hm6 := lr_ml hG
  intro n
  induction n with
  | zero =>
    intro k x hk he
    refine pm_bl [(.iload_n 3, 1, 3, 0, 0), (.aload_n 0, 1, 0, 0, 0), (.getfield 7, 3, 10, 0, 0), (.iconst 2, 1, 0, 0, 2), (.iaload, 1, 0, 0, 0)] (pc1 := 11) (lo1 := [some (.ref 47), some (.int wk), some (.int x), some (.int (nI k))]) (st1 := [.int (μ.1 48 (2 : Int32).toNatClampNeg), .int (nI k)]) (μ1 := μ) (vc := vp_in 2 620 ∧ True) rfl (by decide +kernel) rfl ⟨(by unfold vp_in; decide), trivial⟩ ?_
    rw [show (2 : Int32).toNatClampNeg = 2 from by decide, hM, lr_gh hG]
    refine pm_icmp_ge (off := 26) 37 (by decide +kernel) (by decide) (fun (h11 : (nI (lr_n g 2)) ≤ (nI k)) => ?_) (fun (h9 : ¬ ((nI (lr_n g 2)) ≤ (nI k))) => absurd (nI_le (by omega) (by omega)) h9)
    refine pm_bl [(.iload_n 2, 1, 2, 0, 0)] (pc1 := 38) (lo1 := [some (.ref 47), some (.int wk), some (.int x), some (.int (nI k))]) (st1 := [.int x]) (μ1 := μ) (vc := True) rfl (by decide +kernel) rfl trivial ?_
    exact pm_iret (ty := .int) rfl rfl (by decide) (by decide) (by decide +kernel) (⟨by rw [he, lr_svd, ← hk]; rfl, rfl⟩)
  | succ n ih =>
    intro k x hk he
    refine pm_bl [(.iload_n 3, 1, 3, 0, 0), (.aload_n 0, 1, 0, 0, 0), (.getfield 7, 3, 10, 0, 0), (.iconst 2, 1, 0, 0, 2), (.iaload, 1, 0, 0, 0)] (pc1 := 11) (lo1 := [some (.ref 47), some (.int wk), some (.int x), some (.int (nI k))]) (st1 := [.int (μ.1 48 (2 : Int32).toNatClampNeg), .int (nI k)]) (μ1 := μ) (vc := vp_in 2 620 ∧ True) rfl (by decide +kernel) rfl ⟨(by unfold vp_in; decide), trivial⟩ ?_
    rw [show (2 : Int32).toNatClampNeg = 2 from by decide, hM, lr_gh hG]
    refine pm_icmp_ge (off := 26) 37 (by decide +kernel) (by decide) (fun (h9 : (nI (lr_n g 2)) ≤ (nI k)) => absurd h9 (nI_ge (by omega) (by omega))) (fun (h11 : ¬ ((nI (lr_n g 2)) ≤ (nI k))) => ?_)
    refine pm_bl [(.iload_n 2, 1, 2, 0, 0), (.aload_n 0, 1, 0, 0, 0), (.iload_n 3, 1, 3, 0, 0)] (pc1 := 17) (lo1 := [some (.ref 47), some (.int wk), some (.int x), some (.int (nI k))]) (st1 := [.int (nI k), .ref 47, .int x]) (μ1 := μ) (vc := True) rfl (by decide +kernel) rfl trivial ?_
    refine pm_callV2 mi_X10_serving (ix := 78) (b := 47) (ci := 10) (kc2 := 0) (ks2 := 0) (As := [.int (nI k)]) (rest := [.int x]) (c_X10_serving (h := k) μ hM hG (by omega)) cal_X10_serving lk10_78 (by decide +kernel) rfl (by decide +kernel) rfl rfl rfl rfl (Nat.le_of_ble_eq_true rfl) (by decide) (by decide) (fun _ _ h9 => h9.elim) ?_
    rintro _ _ ⟨rfl, h9⟩; rw [h9]; clear h9
    show pm_V _ _ _ _ 20 _ [.int (lr_sv g k), .int x] _
    refine pm_bl [(.iload_n 1, 1, 1, 0, 0)] (pc1 := 21) (lo1 := [some (.ref 47), some (.int wk), some (.int x), some (.int (nI k))]) (st1 := [.int wk, .int (lr_sv g k), .int x]) (μ1 := μ) (vc := True) rfl (by decide +kernel) rfl trivial ?_
    refine pm_icmp_ne (off := 7) 28 (by decide +kernel) (by decide) (fun (h21 : ¬ (lr_sv g k) = wk) => ?_) (fun (h21 : (lr_sv g k) = wk) => ?_)
    · refine pm_bl [(.iconst 0, 1, 0, 0, 0), (.iadd, 1, 0, 0, 0), (.istore_n 2, 1, 2, 0, 0), (.iinc 3 1, 3, 3, 0, 1), (.goto (-30), 3, 4, 0, 0)] (pc1 := 4) (lo1 := [some (.ref 47), some (.int wk), some (.int (x + 0)), some (.int ((nI k) + 1))]) (st1 := []) (μ1 := μ) (vc := True) rfl (by decide +kernel) rfl trivial ?_
      rw [nI_1]; exact ih (k + 1) _ (by omega) (by rw [he]; simp_all [lr_sum, lr_b])
    · refine pm_bl [(.iconst 1, 1, 0, 0, 1), (.goto 4, 3, 29, 0, 0), (.iadd, 1, 0, 0, 0), (.istore_n 2, 1, 2, 0, 0), (.iinc 3 1, 3, 3, 0, 1), (.goto (-30), 3, 4, 0, 0)] (pc1 := 4) (lo1 := [some (.ref 47), some (.int wk), some (.int (x + 1)), some (.int ((nI k) + 1))]) (st1 := []) (μ1 := μ) (vc := True) rfl (by decide +kernel) rfl trivial ?_
      rw [nI_1]; exact ih (k + 1) _ (by omega) (by rw [he]; simp_all [lr_sum, lr_b])
set_option maxHeartbeats 4000000 in
set_option maxRecDepth 100000 in
theorem c_X10_served {g : Nat → Int32} (wk : Int32) (μ : pm_Mm) (hM : μ.1 48 = g) (hG : lr_G g) : pm_CT mi_X10_served [.ref 47, .int wk] μ (fun v μ2 => v = some (.int (lr_svd g wk)) ∧ μ2 = μ) pm_NX := by
  refine pm_CT_of (lo := [some (.ref 47), some (.int wk), none, none]) (by decide +kernel) rfl rfl (by intro v hv; simp at hv; rcases hv with rfl | rfl <;> rfl) (Nat.le_of_ble_eq_true rfl) rfl ?_
  refine pm_bl [(.iconst 0, 1, 0, 0, 0), (.istore_n 2, 1, 2, 0, 0), (.iconst 0, 1, 0, 0, 0), (.istore_n 3, 1, 3, 0, 0)] (pc1 := 4) (lo1 := [some (.ref 47), some (.int wk), some (.int 0), some (.int 0)]) (st1 := []) (μ1 := μ) (vc := True) rfl (by decide +kernel) rfl trivial ?_
  exact l_X10_served wk μ hM hG (lr_n g 2) 0 0 (Nat.zero_add _) rfl
set_option maxHeartbeats 4000000 in
set_option maxRecDepth 100000 in
theorem l_X10_leads {g : Nat → Int32} (ki so dy : Int32) (μ : pm_Mm) (hM : μ.1 48 = g) (hG : lr_G g) : ∀ n : Nat, ∀ (x : Int32) (o : Option Value), n ≤ lr_n g 167 → x = nI n - 1 → lr_ld g ki so dy = lr_tg g (lr_rc g ki so dy) n → pm_V mi_X10_leads ((fun v μ2 => v = some (.int (lr_ld g ki so dy)) ∧ μ2 = μ), pm_NX, fun _ _ _ => True) 0 0 12 [some (.ref 47), some (.int ki), some (.int so), some (.int dy), some (.int x), none] [] μ := by
  have hm1 := lr_mh hG; have hm2 := lr_mw hG; have hm3 := lr_mp hG; have hm4 := lr_mr hG; have hm5 := lr_ma hG; have hm6 := lr_ml hG
  intro n
  induction n with
  | zero =>
    intro x o hn hx he
    refine pm_bl [(.iload 4, 2, 4, 0, 0)] (pc1 := 14) (lo1 := [some (.ref 47), some (.int ki), some (.int so), some (.int dy), some (.int x), none]) (st1 := [.int x]) (μ1 := μ) (vc := True) rfl (by decide +kernel) rfl trivial ?_
    refine pm_if_lt (off := 78) 92 (by decide +kernel) (by decide) (fun (h14 : x < 0) => ?_) (fun (h9 : ¬ (x < 0)) => absurd (by rw [hx, nI_0]; decide) h9)
    refine pm_bl [(.iconst (-1), 1, 0, 0, (-1))] (pc1 := 93) (lo1 := [some (.ref 47), some (.int ki), some (.int so), some (.int dy), some (.int x), none]) (st1 := [.int (-1)]) (μ1 := μ) (vc := True) rfl (by decide +kernel) rfl trivial ?_
    exact pm_iret (ty := .int) rfl rfl (by decide) (by decide) (by decide +kernel) (⟨by rw [he]; rfl, rfl⟩)
  | succ n ih =>
    intro x o hn hx he
    rw [nI_pred] at hx
    subst hx
    refine pm_bl [(.iload 4, 2, 4, 0, 0)] (pc1 := 14) (lo1 := [some (.ref 47), some (.int ki), some (.int so), some (.int dy), some (.int (nI n)), none]) (st1 := [.int (nI n)]) (μ1 := μ) (vc := True) rfl (by decide +kernel) rfl trivial ?_
    refine pm_if_lt (off := 78) 92 (by decide +kernel) (by decide) (fun (h9 : (nI n) < 0) => absurd h9 (nI_pos (by omega))) (fun (h14 : ¬ ((nI n) < 0)) => ?_)
    refine pm_bl [(.sipush 168, 3, 0, 0, 168), (.iconst 5, 1, 0, 0, 5), (.iload 4, 2, 4, 0, 0), (.imul, 1, 0, 0, 0), (.iadd, 1, 0, 0, 0)] (pc1 := 25) (lo1 := [some (.ref 47), some (.int ki), some (.int so), some (.int dy), some (.int (nI n)), none]) (st1 := [.int (168 + (5 * (nI n)))]) (μ1 := μ) (vc := True) rfl (by decide +kernel) rfl trivial ?_
    refine pm_bl [(.istore 5, 2, 5, 0, 0), (.aload_n 0, 1, 0, 0, 0), (.getfield 7, 3, 10, 0, 0), (.iload 5, 2, 5, 0, 0)] (pc1 := 33) (lo1 := [some (.ref 47), some (.int ki), some (.int so), some (.int dy), some (.int (nI n)), some (.int (168 + (5 * (nI n))))]) (st1 := [.int (168 + (5 * (nI n))), .ref 48]) (μ1 := μ) (vc := True) rfl (by decide +kernel) rfl trivial ?_
    rw [(show (168 + (5 * (nI n)) : Int32) = nI (168 + (5 * (n))) from by simp only [nI, Int32.ofNat_add, Int32.ofNat_mul]; rfl).trans (congrArg nI (show 168 + (5 * (n)) = 168 + 5 * n from by omega))]
    refine pm_bl [(.iaload, 1, 0, 0, 0)] (pc1 := 34) (lo1 := [some (.ref 47), some (.int ki), some (.int so), some (.int dy), some (.int (nI n)), some (.int (nI (168 + 5 * n)))]) (st1 := [.int (μ.1 48 (nI (168 + 5 * n)).toNatClampNeg)]) (μ1 := μ) (vc := vp_in (nI (168 + 5 * n)) 620 ∧ True) rfl (by decide +kernel) rfl ⟨(vp_in_nI (by omega) (by omega)), trivial⟩ ?_
    first | rw [nI_clamp (n := 168 + 5 * n) (by omega), hM] | rw [hM]
    refine pm_bl [(.iload_n 1, 1, 1, 0, 0)] (pc1 := 35) (lo1 := [some (.ref 47), some (.int ki), some (.int so), some (.int dy), some (.int (nI n)), some (.int (nI (168 + 5 * n)))]) (st1 := [.int ki, .int (g (168 + 5 * n))]) (μ1 := μ) (vc := True) rfl (by decide +kernel) rfl trivial ?_
    refine pm_icmp_ne (off := 51) 86 (by decide +kernel) (by decide) (fun (h35 : ¬ (g (168 + 5 * n)) = ki) => ?_) (fun (h35 : (g (168 + 5 * n)) = ki) => ?_)
    · refine pm_bl [(.iinc 4 (-1), 3, 4, 0, (-1)), (.goto (-77), 3, 12, 0, 0)] (pc1 := 12) (lo1 := [some (.ref 47), some (.int ki), some (.int so), some (.int dy), some (.int ((nI n) + (-1))), some (.int (nI (168 + 5 * n)))]) (st1 := []) (μ1 := μ) (vc := True) rfl (by decide +kernel) rfl trivial ?_
      refine pm_V.drop (lo' := [some (.ref 47), some (.int ki), some (.int so), some (.int dy), some (.int (nI n + (-1))), none]) ⟨rfl, rfl, rfl, rfl, rfl, trivial⟩ ?_; exact ih _ none (by omega) (by rw [Int32.sub_eq_add_neg]) (by rw [he]; simp only [lr_tg]; rw [if_neg (by simp_all [lr_rc])])
    · refine pm_bl [(.aload_n 0, 1, 0, 0, 0), (.getfield 7, 3, 10, 0, 0), (.iload 5, 2, 5, 0, 0), (.iconst 1, 1, 0, 0, 1), (.iadd, 1, 0, 0, 0)] (pc1 := 46) (lo1 := [some (.ref 47), some (.int ki), some (.int so), some (.int dy), some (.int (nI n)), some (.int (nI (168 + 5 * n)))]) (st1 := [.int ((nI (168 + 5 * n)) + 1), .ref 48]) (μ1 := μ) (vc := True) rfl (by decide +kernel) rfl trivial ?_
      rw [(show ((nI (168 + 5 * n)) + 1 : Int32) = nI (((168 + 5 * n)) + 1) from by simp only [nI, Int32.ofNat_add, Int32.ofNat_mul]; rfl).trans (congrArg nI (show ((168 + 5 * n)) + 1 = 169 + 5 * n from by omega))]
      refine pm_bl [(.iaload, 1, 0, 0, 0)] (pc1 := 47) (lo1 := [some (.ref 47), some (.int ki), some (.int so), some (.int dy), some (.int (nI n)), some (.int (nI (168 + 5 * n)))]) (st1 := [.int (μ.1 48 (nI (169 + 5 * n)).toNatClampNeg)]) (μ1 := μ) (vc := vp_in (nI (169 + 5 * n)) 620 ∧ True) rfl (by decide +kernel) rfl ⟨(vp_in_nI (by omega) (by omega)), trivial⟩ ?_
      first | rw [nI_clamp (n := 169 + 5 * n) (by omega), hM] | rw [hM]
      refine pm_bl [(.iload_n 2, 1, 2, 0, 0)] (pc1 := 48) (lo1 := [some (.ref 47), some (.int ki), some (.int so), some (.int dy), some (.int (nI n)), some (.int (nI (168 + 5 * n)))]) (st1 := [.int so, .int (g (169 + 5 * n))]) (μ1 := μ) (vc := True) rfl (by decide +kernel) rfl trivial ?_
      refine pm_icmp_ne (off := 38) 86 (by decide +kernel) (by decide) (fun (h48 : ¬ (g (169 + 5 * n)) = so) => ?_) (fun (h48 : (g (169 + 5 * n)) = so) => ?_)
      · refine pm_bl [(.iinc 4 (-1), 3, 4, 0, (-1)), (.goto (-77), 3, 12, 0, 0)] (pc1 := 12) (lo1 := [some (.ref 47), some (.int ki), some (.int so), some (.int dy), some (.int ((nI n) + (-1))), some (.int (nI (168 + 5 * n)))]) (st1 := []) (μ1 := μ) (vc := True) rfl (by decide +kernel) rfl trivial ?_
        refine pm_V.drop (lo' := [some (.ref 47), some (.int ki), some (.int so), some (.int dy), some (.int (nI n + (-1))), none]) ⟨rfl, rfl, rfl, rfl, rfl, trivial⟩ ?_; exact ih _ none (by omega) (by rw [Int32.sub_eq_add_neg]) (by rw [he]; simp only [lr_tg]; rw [if_neg (by simp_all [lr_rc])])
      · refine pm_bl [(.iload_n 3, 1, 3, 0, 0), (.aload_n 0, 1, 0, 0, 0), (.getfield 7, 3, 10, 0, 0), (.iload 5, 2, 5, 0, 0), (.iconst 3, 1, 0, 0, 3), (.iadd, 1, 0, 0, 0)] (pc1 := 60) (lo1 := [some (.ref 47), some (.int ki), some (.int so), some (.int dy), some (.int (nI n)), some (.int (nI (168 + 5 * n)))]) (st1 := [.int ((nI (168 + 5 * n)) + 3), .ref 48, .int dy]) (μ1 := μ) (vc := True) rfl (by decide +kernel) rfl trivial ?_
        rw [(show ((nI (168 + 5 * n)) + 3 : Int32) = nI (((168 + 5 * n)) + 3) from by simp only [nI, Int32.ofNat_add, Int32.ofNat_mul]; rfl).trans (congrArg nI (show ((168 + 5 * n)) + 3 = 171 + 5 * n from by omega))]
        refine pm_bl [(.iaload, 1, 0, 0, 0)] (pc1 := 61) (lo1 := [some (.ref 47), some (.int ki), some (.int so), some (.int dy), some (.int (nI n)), some (.int (nI (168 + 5 * n)))]) (st1 := [.int (μ.1 48 (nI (171 + 5 * n)).toNatClampNeg), .int dy]) (μ1 := μ) (vc := vp_in (nI (171 + 5 * n)) 620 ∧ True) rfl (by decide +kernel) rfl ⟨(vp_in_nI (by omega) (by omega)), trivial⟩ ?_
        first | rw [nI_clamp (n := 171 + 5 * n) (by omega), hM] | rw [hM]
        refine pm_bl [(.aload_n 0, 1, 0, 0, 0), (.getfield 7, 3, 10, 0, 0), (.iload 5, 2, 5, 0, 0), (.iconst 4, 1, 0, 0, 4), (.iadd, 1, 0, 0, 0)] (pc1 := 69) (lo1 := [some (.ref 47), some (.int ki), some (.int so), some (.int dy), some (.int (nI n)), some (.int (nI (168 + 5 * n)))]) (st1 := [.int ((nI (168 + 5 * n)) + 4), .ref 48, .int (g (171 + 5 * n)), .int dy]) (μ1 := μ) (vc := True) rfl (by decide +kernel) rfl trivial ?_
        rw [(show ((nI (168 + 5 * n)) + 4 : Int32) = nI (((168 + 5 * n)) + 4) from by simp only [nI, Int32.ofNat_add, Int32.ofNat_mul]; rfl).trans (congrArg nI (show ((168 + 5 * n)) + 4 = 172 + 5 * n from by omega))]
        refine pm_bl [(.iaload, 1, 0, 0, 0)] (pc1 := 70) (lo1 := [some (.ref 47), some (.int ki), some (.int so), some (.int dy), some (.int (nI n)), some (.int (nI (168 + 5 * n)))]) (st1 := [.int (μ.1 48 (nI (172 + 5 * n)).toNatClampNeg), .int (g (171 + 5 * n)), .int dy]) (μ1 := μ) (vc := vp_in (nI (172 + 5 * n)) 620 ∧ True) rfl (by decide +kernel) rfl ⟨(vp_in_nI (by omega) (by omega)), trivial⟩ ?_
        first | rw [nI_clamp (n := 172 + 5 * n) (by omega), hM] | rw [hM]
        refine pm_callS2 mi_X10_in (ix := 45) (kc2 := 0) (ks2 := 0) (As := [.int dy, .int (g (171 + 5 * n)), .int (g (172 + 5 * n))]) (rest := []) (c_X10_in dy (g (171 + 5 * n)) (g (172 + 5 * n)) μ) cal_X10_in lk10_45 (by decide +kernel) rfl (by decide +kernel) rfl rfl (Nat.le_of_ble_eq_true rfl) (by decide) (by decide) (fun _ _ h9 => h9.elim) ?_
        rintro _ _ ⟨rfl, h9⟩; rw [h9]; clear h9
        show pm_V _ _ _ _ 73 _ [.int (lr_b (lr_in dy (g (171 + 5 * n)) (g (172 + 5 * n))))] _
        refine pm_ifb_eq (off := 13) 86 (by decide +kernel) (by decide) (fun (h73 : (lr_in dy (g (171 + 5 * n)) (g (172 + 5 * n))) = false) => ?_) (fun (h73 : (lr_in dy (g (171 + 5 * n)) (g (172 + 5 * n))) = true) => ?_)
        · refine pm_bl [(.iinc 4 (-1), 3, 4, 0, (-1)), (.goto (-77), 3, 12, 0, 0)] (pc1 := 12) (lo1 := [some (.ref 47), some (.int ki), some (.int so), some (.int dy), some (.int ((nI n) + (-1))), some (.int (nI (168 + 5 * n)))]) (st1 := []) (μ1 := μ) (vc := True) rfl (by decide +kernel) rfl trivial ?_
          refine pm_V.drop (lo' := [some (.ref 47), some (.int ki), some (.int so), some (.int dy), some (.int (nI n + (-1))), none]) ⟨rfl, rfl, rfl, rfl, rfl, trivial⟩ ?_; exact ih _ none (by omega) (by rw [Int32.sub_eq_add_neg]) (by rw [he]; simp only [lr_tg]; rw [if_neg (by simp_all [lr_rc])])
        · refine pm_bl [(.aload_n 0, 1, 0, 0, 0), (.getfield 7, 3, 10, 0, 0), (.iload 5, 2, 5, 0, 0), (.iconst 2, 1, 0, 0, 2), (.iadd, 1, 0, 0, 0)] (pc1 := 84) (lo1 := [some (.ref 47), some (.int ki), some (.int so), some (.int dy), some (.int (nI n)), some (.int (nI (168 + 5 * n)))]) (st1 := [.int ((nI (168 + 5 * n)) + 2), .ref 48]) (μ1 := μ) (vc := True) rfl (by decide +kernel) rfl trivial ?_
          rw [(show ((nI (168 + 5 * n)) + 2 : Int32) = nI (((168 + 5 * n)) + 2) from by simp only [nI, Int32.ofNat_add, Int32.ofNat_mul]; rfl).trans (congrArg nI (show ((168 + 5 * n)) + 2 = 170 + 5 * n from by omega))]
          refine pm_bl [(.iaload, 1, 0, 0, 0)] (pc1 := 85) (lo1 := [some (.ref 47), some (.int ki), some (.int so), some (.int dy), some (.int (nI n)), some (.int (nI (168 + 5 * n)))]) (st1 := [.int (μ.1 48 (nI (170 + 5 * n)).toNatClampNeg)]) (μ1 := μ) (vc := vp_in (nI (170 + 5 * n)) 620 ∧ True) rfl (by decide +kernel) rfl ⟨(vp_in_nI (by omega) (by omega)), trivial⟩ ?_
          first | rw [nI_clamp (n := 170 + 5 * n) (by omega), hM] | rw [hM]
          exact pm_iret (ty := .int) rfl rfl (by decide) (by decide) (by decide +kernel) (⟨by rw [he]; simp only [lr_tg]; rw [if_pos (by simp_all [lr_rc])], rfl⟩)
set_option maxHeartbeats 4000000 in
set_option maxRecDepth 100000 in
theorem c_X10_leads {g : Nat → Int32} (ki so dy : Int32) (μ : pm_Mm) (hM : μ.1 48 = g) (hG : lr_G g) : pm_CT mi_X10_leads [.ref 47, .int ki, .int so, .int dy] μ (fun v μ2 => v = some (.int (lr_ld g ki so dy)) ∧ μ2 = μ) pm_NX := by
  refine pm_CT_of (lo := [some (.ref 47), some (.int ki), some (.int so), some (.int dy), none, none]) (by decide +kernel) rfl rfl (by intro v hv; simp at hv; rcases hv with rfl | rfl | rfl | rfl <;> rfl) (Nat.le_of_ble_eq_true rfl) rfl ?_
  have hm1 := lr_mh hG; have hm2 := lr_mw hG; have hm3 := lr_mp hG; have hm4 := lr_mr hG; have hm5 := lr_ma hG; have hm6 := lr_ml hG
  refine pm_bl [(.aload_n 0, 1, 0, 0, 0), (.getfield 7, 3, 10, 0, 0), (.sipush 167, 3, 0, 0, 167), (.iaload, 1, 0, 0, 0)] (pc1 := 8) (lo1 := [some (.ref 47), some (.int ki), some (.int so), some (.int dy), none, none]) (st1 := [.int (μ.1 48 (167 : Int32).toNatClampNeg)]) (μ1 := μ) (vc := vp_in 167 620 ∧ True) rfl (by decide +kernel) rfl ⟨(by unfold vp_in; decide), trivial⟩ ?_
  rw [show (167 : Int32).toNatClampNeg = 167 from by decide, hM, lr_gr hG]
  refine pm_bl [(.iconst 1, 1, 0, 0, 1), (.isub, 1, 0, 0, 0), (.istore 4, 2, 4, 0, 0)] (pc1 := 12) (lo1 := [some (.ref 47), some (.int ki), some (.int so), some (.int dy), some (.int ((nI (lr_n g 167)) - 1)), none]) (st1 := []) (μ1 := μ) (vc := True) rfl (by decide +kernel) rfl trivial ?_
  exact l_X10_leads ki so dy μ hM hG (lr_n g 167) _ none (Nat.le_refl _) rfl rfl
