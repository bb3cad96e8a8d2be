/-! the class: days pass -/
set_option maxHeartbeats 4000000 in
set_option maxRecDepth 100000 in
theorem c_X9_pass_no1 {g : Nat → Int32} {y : Int32} (μ : pm_Mm) (hR : lr_Rel μ.1 1 g) (hG : lr_G g) (hl : lr_in y 1 60 = false) : pm_CT mi_X9_pass [.ref 0, .int y] μ (fun _ _ => False) (fun E μ2 => E = "java/lang/IllegalArgumentException" ∧ μ2 = μ) := by
  refine pm_CT_of (lo := [some (.ref 0), some (.int y), none, none]) (by decide +kernel) rfl rfl (by intro v hv; simp at hv; rcases hv with rfl | rfl <;> rfl) (Nat.le_of_ble_eq_true rfl) rfl ?_
  have hm1 := lr_mh hG; have hm2 := lr_mw hG; have hm3 := lr_mp hG; have hm4 := lr_mr hG; have hm5 := lr_ma hG; have hm6 := lr_ml hG
  refine pm_bl [(.iload_n 1, 1, 1, 0, 0), (.iconst 1, 1, 0, 0, 1), (.bipush 60, 2, 0, 0, 60)] (pc1 := 4) (lo1 := [some (.ref 0), some (.int y), none, none]) (st1 := [.int 60, .int 1, .int y]) (μ1 := μ) (vc := True) rfl (by decide +kernel) rfl trivial ?_
  refine pm_callS2 mi_X9_isBetween (ix := 102) (kc2 := 0) (ks2 := 0) (As := [.int y, .int 1, .int 60]) (rest := []) (c_X9_isBetween y 1 60 μ) cal_X9_isBetween lk9_102 (by decide +kernel) rfl (by decide +kernel) rfl rfl (Nat.le_of_ble_eq_true rfl) (by decide) (by decide) (fun _ _ h9 => h9.elim) ?_
  rintro _ _ ⟨rfl, h9⟩; rw [h9]; clear h9
  show pm_V _ _ _ _ 7 _ [.int (lr_b (lr_in y 1 60))] _
  refine pm_ifb_eq (off := 18) 25 (by decide +kernel) (by decide) (fun (h7 : (lr_in y 1 60) = false) => ?_) (fun (h9 : (lr_in y 1 60) = true) => absurd (hl.symm.trans h9) (by decide))
  exact pm_throwW (is := 322) (tx := "so many days cannot go by") pm_exIA rfl (by decide +kernel) rfl (by decide +kernel) (by decide +kernel) (by decide +kernel) (by decide +kernel) (by decide +kernel) (by decide) (by decide) (⟨rfl, rfl⟩)
set_option maxHeartbeats 4000000 in
set_option maxRecDepth 100000 in
theorem c_X9_pass_no1b {g : Nat → Int32} {y : Int32} (μ : pm_Mm) (hR : lr_Rel μ.1 1 g) (hG : lr_G g) (hl : lr_in y 1 60 = true) (hy : 365 < nI (lr_n g 0) + y) : pm_CT mi_X9_pass [.ref 0, .int y] μ (fun _ _ => False) (fun E μ2 => E = "java/lang/IllegalArgumentException" ∧ μ2 = μ) := by
  refine pm_CT_of (lo := [some (.ref 0), some (.int y), none, none]) (by decide +kernel) rfl rfl (by intro v hv; simp at hv; rcases hv with rfl | rfl <;> rfl) (Nat.le_of_ble_eq_true rfl) rfl ?_
  have hm1 := lr_mh hG; have hm2 := lr_mw hG; have hm3 := lr_mp hG; have hm4 := lr_mr hG; have hm5 := lr_ma hG; have hm6 := lr_ml hG
  refine pm_bl [(.iload_n 1, 1, 1, 0, 0), (.iconst 1, 1, 0, 0, 1), (.bipush 60, 2, 0, 0, 60)] (pc1 := 4) (lo1 := [some (.ref 0), some (.int y), none, none]) (st1 := [.int 60, .int 1, .int y]) (μ1 := μ) (vc := True) rfl (by decide +kernel) rfl trivial ?_
  refine pm_callS2 mi_X9_isBetween (ix := 102) (kc2 := 0) (ks2 := 0) (As := [.int y, .int 1, .int 60]) (rest := []) (c_X9_isBetween y 1 60 μ) cal_X9_isBetween lk9_102 (by decide +kernel) rfl (by decide +kernel) rfl rfl (Nat.le_of_ble_eq_true rfl) (by decide) (by decide) (fun _ _ h9 => h9.elim) ?_
  rintro _ _ ⟨rfl, h9⟩; rw [h9]; clear h9
  show pm_V _ _ _ _ 7 _ [.int (lr_b (lr_in y 1 60))] _
  refine pm_ifb_eq (off := 18) 25 (by decide +kernel) (by decide) (fun (h9 : (lr_in y 1 60) = false) => absurd (hl.symm.trans h9) (by decide)) (fun (h7 : (lr_in y 1 60) = true) => ?_)
  refine pm_bl [(.aload_n 0, 1, 0, 0, 0), (.getfield 10, 3, 9, 0, 0), (.getfield 242, 3, 5, 6, 0)] (pc1 := 17) (lo1 := [some (.ref 0), some (.int y), none, none]) (st1 := [.int (μ.1 1 6)]) (μ1 := μ) (vc := True) rfl (by decide +kernel) rfl trivial ?_
  rw [lr_rT hR, lr_gT hG]
  refine pm_bl [(.iload_n 1, 1, 1, 0, 0), (.iadd, 1, 0, 0, 0), (.sipush 365, 3, 0, 0, 365)] (pc1 := 22) (lo1 := [some (.ref 0), some (.int y), none, none]) (st1 := [.int 365, .int ((nI (lr_n g 0)) + y)]) (μ1 := μ) (vc := True) rfl (by decide +kernel) rfl trivial ?_
  refine pm_icmp_le (off := 14) 36 (by decide +kernel) (by decide) (fun (h9 : ((nI (lr_n g 0)) + y) ≤ 365) => absurd h9 (Int32.not_le.mpr hy)) (fun (h22 : ¬ (((nI (lr_n g 0)) + y) ≤ 365)) => ?_)
  exact pm_throwW (is := 322) (tx := "so many days cannot go by") pm_exIA rfl (by decide +kernel) rfl (by decide +kernel) (by decide +kernel) (by decide +kernel) (by decide +kernel) (by decide +kernel) (by decide) (by decide) (⟨rfl, rfl⟩)
set_option maxHeartbeats 4000000 in
set_option maxRecDepth 100000 in
theorem l_X9_pass {g : Nat → Int32} {K c n : Nat} {F : Nat → Nat → Int32} {μ0 : pm_Mm} (hI : lr_I g) (hT : lr_n g 0 + K ≤ 365) (hmono : lr_n g 1 ≤ lr_n (lr_days g K) 1) : ∀ m k : Nat, k + m = K → ∀ (μ1 : pm_Mm), lr_fc μ0 μ1 → lr_Rel μ1.1 1 (lr_days g k) → lr_Hs μ1.1 c n F → pm_V mi_X9_pass ((fun v μ2 => v = some (.int (nI (lr_n (lr_days g K) 1 - lr_n g 1))) ∧ lr_fc μ0 μ2 ∧ lr_Rel μ2.1 1 (lr_days g K) ∧ lr_Hs μ2.1 c n F), pm_NX, fun _ _ _ => True) 0 0 60 [some (.ref 0), some (.int (nI K)), some (.int (nI (lr_n g 1))), some (.int (nI k))] [] μ1 := by
  intro m
  induction m with
  | zero =>
    intro k hk μ1 hf hR hH
    have hGK := (lr_days_I hI K hT).1.1
    refine pm_bl [(.iload_n 3, 1, 3, 0, 0), (.iload_n 1, 1, 1, 0, 0)] (pc1 := 62) (lo1 := [some (.ref 0), some (.int (nI K)), some (.int (nI (lr_n g 1))), some (.int (nI k))]) (st1 := [.int (nI K), .int (nI k)]) (μ1 := μ1) (vc := True) rfl (by decide +kernel) rfl trivial ?_
    refine pm_icmp_ge (off := 16) 78 (by decide +kernel) (by decide) (fun (h62 : (nI K) ≤ (nI k)) => ?_) (fun (h9 : ¬ ((nI K) ≤ (nI k))) => absurd (nI_le (by omega) (by omega)) h9)
    refine pm_bl [(.aload_n 0, 1, 0, 0, 0), (.getfield 10, 3, 9, 0, 0), (.getfield 235, 3, 5, 5, 0), (.getfield 304, 3, 4, 1, 0)] (pc1 := 88) (lo1 := [some (.ref 0), some (.int (nI K)), some (.int (nI (lr_n g 1))), some (.int (nI k))]) (st1 := [.int (μ1.1 26 1)]) (μ1 := μ1) (vc := True) rfl (by decide +kernel) rfl trivial ?_
    rw [show μ1.1 26 1 = nI (lr_n (lr_days g K) 1) from by rw [lr_rD hR, show k = K from by omega]; exact lr_gD hGK]
    refine pm_bl [(.iload_n 2, 1, 2, 0, 0), (.isub, 1, 0, 0, 0)] (pc1 := 90) (lo1 := [some (.ref 0), some (.int (nI K)), some (.int (nI (lr_n g 1))), some (.int (nI k))]) (st1 := [.int ((nI (lr_n (lr_days g K) 1)) - (nI (lr_n g 1)))]) (μ1 := μ1) (vc := True) rfl (by decide +kernel) rfl trivial ?_
    exact pm_iret (ty := .int) rfl rfl (by decide) (by decide) (by decide +kernel) (⟨by rw [nI_subN hmono], hf, by rw [← show k = K from by omega]; exact hR, hH⟩)
  | succ m ih =>
    intro k hk μ1 hf hR hH
    have hIk := lr_days_I hI k (by omega)
    refine pm_bl [(.iload_n 3, 1, 3, 0, 0), (.iload_n 1, 1, 1, 0, 0)] (pc1 := 62) (lo1 := [some (.ref 0), some (.int (nI K)), some (.int (nI (lr_n g 1))), some (.int (nI k))]) (st1 := [.int (nI K), .int (nI k)]) (μ1 := μ1) (vc := True) rfl (by decide +kernel) rfl trivial ?_
    refine pm_icmp_ge (off := 16) 78 (by decide +kernel) (by decide) (fun (h9 : (nI K) ≤ (nI k)) => absurd h9 (nI_ge (by omega) (by omega))) (fun (h62 : ¬ ((nI K) ≤ (nI k))) => ?_)
    refine pm_bl [(.aload_n 0, 1, 0, 0, 0), (.getfield 10, 3, 9, 0, 0)] (pc1 := 69) (lo1 := [some (.ref 0), some (.int (nI K)), some (.int (nI (lr_n g 1))), some (.int (nI k))]) (st1 := [.ref 1]) (μ1 := μ1) (vc := True) rfl (by decide +kernel) rfl trivial ?_
    refine pm_callV2 mi_X5_endDay (ix := 324) (b := 1) (ci := 5) (kc2 := 0) (ks2 := 0) (As := []) (rest := []) (c_X5_endDay μ1 hR hIk.1) cal_X5_endDay lk9_324 (by decide +kernel) rfl (by decide +kernel) rfl rfl rfl rfl (Nat.le_of_ble_eq_true rfl) (by decide) (by decide) (fun _ _ h9 => h9.elim) ?_
    rintro _ μ3 ⟨rfl, hf3, hR3⟩
    show pm_V _ _ _ _ 72 _ [] _
    refine pm_bl [(.iinc 3 1, 3, 3, 0, 1), (.goto (-15), 3, 60, 0, 0)] (pc1 := 60) (lo1 := [some (.ref 0), some (.int (nI K)), some (.int (nI (lr_n g 1))), some (.int ((nI k) + 1))]) (st1 := []) (μ1 := μ3) (vc := True) rfl (by decide +kernel) rfl trivial ?_
    rw [nI_1]; exact ih (k + 1) (by omega) μ3 (hf.tr hf3) hR3 (hH.fr (fun i hi => hf3.1 i (by omega)))
theorem lr_days_D {g : Nat → Int32} (hI : lr_I g) : ∀ K, lr_n g 0 + K ≤ 365 → lr_n g 1 ≤ lr_n (lr_days g K) 1 := by
  intro K
  induction K with
  | zero => intro _; exact Nat.le_refl _
  | succ K ih =>
    intro h
    have := lr_day_D (lr_days_I hI K (by omega)).1
    have := ih (by omega)
    simp only [lr_days]; omega
set_option maxHeartbeats 4000000 in
set_option maxRecDepth 100000 in
theorem c_X9_pass {g : Nat → Int32} {c n : Nat} {F : Nat → Nat → Int32} {K : Nat} (μ : pm_Mm) (hR : lr_Rel μ.1 1 g) (hG : lr_G g) (hI : lr_I g) (hl : lr_in (nI K) 1 60 = true) (hK : K ≤ 60) (hT : lr_n g 0 + K ≤ 365) (hH : lr_Hs μ.1 c n F) : pm_CT mi_X9_pass [.ref 0, .int (nI K)] μ (fun v μ2 => v = some (.int (nI (lr_n (lr_days g K) 1 - lr_n g 1))) ∧ lr_fc μ μ2 ∧ lr_Rel μ2.1 1 (lr_days g K) ∧ lr_Hs μ2.1 (min (c + 1) 8) ((n + 1) % 8) (lr_psh c F g)) pm_NX := by
  refine pm_CT_of (lo := [some (.ref 0), some (.int (nI K)), none, none]) (by decide +kernel) rfl rfl (by intro v hv; simp at hv; rcases hv with rfl | rfl <;> rfl) (Nat.le_of_ble_eq_true rfl) rfl ?_
  have hm1 := lr_mh hG; have hm2 := lr_mw hG; have hm3 := lr_mp hG; have hm4 := lr_mr hG; have hm5 := lr_ma hG; have hm6 := lr_ml hG
  refine pm_bl [(.iload_n 1, 1, 1, 0, 0), (.iconst 1, 1, 0, 0, 1), (.bipush 60, 2, 0, 0, 60)] (pc1 := 4) (lo1 := [some (.ref 0), some (.int (nI K)), none, none]) (st1 := [.int 60, .int 1, .int (nI K)]) (μ1 := μ) (vc := True) rfl (by decide +kernel) rfl trivial ?_
  refine pm_callS2 mi_X9_isBetween (ix := 102) (kc2 := 0) (ks2 := 0) (As := [.int (nI K), .int 1, .int 60]) (rest := []) (c_X9_isBetween (nI K) 1 60 μ) cal_X9_isBetween lk9_102 (by decide +kernel) rfl (by decide +kernel) rfl rfl (Nat.le_of_ble_eq_true rfl) (by decide) (by decide) (fun _ _ h9 => h9.elim) ?_
  rintro _ _ ⟨rfl, h9⟩; rw [h9]; clear h9
  show pm_V _ _ _ _ 7 _ [.int (lr_b (lr_in (nI K) 1 60))] _
  refine pm_ifb_eq (off := 18) 25 (by decide +kernel) (by decide) (fun (h9 : (lr_in (nI K) 1 60) = false) => absurd (hl.symm.trans h9) (by decide)) (fun (h7 : (lr_in (nI K) 1 60) = true) => ?_)
  refine pm_bl [(.aload_n 0, 1, 0, 0, 0), (.getfield 10, 3, 9, 0, 0), (.getfield 242, 3, 5, 6, 0)] (pc1 := 17) (lo1 := [some (.ref 0), some (.int (nI K)), none, none]) (st1 := [.int (μ.1 1 6)]) (μ1 := μ) (vc := True) rfl (by decide +kernel) rfl trivial ?_
  rw [lr_rT hR, lr_gT hG]
  refine pm_bl [(.iload_n 1, 1, 1, 0, 0), (.iadd, 1, 0, 0, 0), (.sipush 365, 3, 0, 0, 365)] (pc1 := 22) (lo1 := [some (.ref 0), some (.int (nI K)), none, none]) (st1 := [.int 365, .int ((nI (lr_n g 0)) + (nI K))]) (μ1 := μ) (vc := True) rfl (by decide +kernel) rfl trivial ?_
  refine pm_icmp_le (off := 14) 36 (by decide +kernel) (by decide) (fun (h22 : ((nI (lr_n g 0)) + (nI K)) ≤ 365) => ?_) (fun (h9 : ¬ (((nI (lr_n g 0)) + (nI K)) ≤ 365)) => absurd (by rw [nI_add]; exact nI_le (b := 365) hT (by decide)) h9)
  refine pm_bl [(.aload_n 0, 1, 0, 0, 0), (.getfield 19, 3, 9, 1, 0), (.aload_n 0, 1, 0, 0, 0), (.getfield 10, 3, 9, 0, 0)] (pc1 := 44) (lo1 := [some (.ref 0), some (.int (nI K)), none, none]) (st1 := [.ref 1, .ref 45]) (μ1 := μ) (vc := True) rfl (by decide +kernel) rfl trivial ?_
  refine pm_callV2 mi_X2_keep (ix := 78) (b := 45) (ci := 2) (kc2 := 0) (ks2 := 0) (As := [.ref 1]) (rest := []) (c_X2_keep (c := c) (n := n) μ hR hG.B hH.2.1 hH.2.2.2.1 hH.2.2.1 hH.1) cal_X2_keep lk9_78 (by decide +kernel) rfl (by decide +kernel) rfl rfl rfl rfl (Nat.le_of_ble_eq_true rfl) (by decide) (by decide) (fun _ _ h9 => h9.elim) ?_
  rintro _ μ1 ⟨rfl, h2k, hfk, hRk, hck, hnk⟩
  obtain ⟨hFC, hR1, hH1⟩ := lr_keep_ok hR hH h2k hfk hRk hck hnk
  show pm_V _ _ _ _ 47 _ [] _
  refine pm_bl [(.aload_n 0, 1, 0, 0, 0), (.getfield 10, 3, 9, 0, 0), (.getfield 235, 3, 5, 5, 0), (.getfield 304, 3, 4, 1, 0)] (pc1 := 57) (lo1 := [some (.ref 0), some (.int (nI K)), none, none]) (st1 := [.int (μ1.1 26 1)]) (μ1 := μ1) (vc := True) rfl (by decide +kernel) rfl trivial ?_
  rw [lr_rD hR1, lr_gD hG]
  refine pm_bl [(.istore_n 2, 1, 2, 0, 0), (.iconst 0, 1, 0, 0, 0), (.istore_n 3, 1, 3, 0, 0)] (pc1 := 60) (lo1 := [some (.ref 0), some (.int (nI K)), some (.int (nI (lr_n g 1))), some (.int 0)]) (st1 := []) (μ1 := μ1) (vc := True) rfl (by decide +kernel) rfl trivial ?_
  exact l_X9_pass hI hT (lr_days_D hI K hT) K 0 (Nat.zero_add _) μ1 hFC hR1 hH1
set_option maxHeartbeats 4000000 in
set_option maxRecDepth 100000 in
theorem c_X9_today {g : Nat → Int32} (μ : pm_Mm) (hR : lr_Rel μ.1 1 g) (hG : lr_G g) : pm_CT mi_X9_today [.ref 0] μ (fun v μ2 => v = some (.int (nI (lr_n g 0))) ∧ μ2 = μ) pm_NX := by
  refine pm_CT_of (lo := [some (.ref 0)]) (by decide +kernel) rfl rfl (by intro v hv; simp at hv; rcases hv with rfl <;> rfl) (Nat.le_of_ble_eq_true rfl) rfl ?_
  have hm1 := lr_mh hG; have hm2 := lr_mw hG; have hm3 := lr_mp hG; have hm4 := lr_mr hG; have hm5 := lr_ma hG; have hm6 := lr_ml hG
  refine pm_bl [(.aload_n 0, 1, 0, 0, 0), (.getfield 10, 3, 9, 0, 0), (.getfield 242, 3, 5, 6, 0)] (pc1 := 7) (lo1 := [some (.ref 0)]) (st1 := [.int (μ.1 1 6)]) (μ1 := μ) (vc := True) rfl (by decide +kernel) rfl trivial ?_
  rw [lr_rT hR, lr_gT hG]
  exact pm_iret (ty := .int) rfl rfl (by decide) (by decide) (by decide +kernel) (⟨rfl, rfl⟩)
