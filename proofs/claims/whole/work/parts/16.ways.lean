/-! ways, absences, signers: first that what a good row names is there -/
theorem lr_G_h {g : Nat → Int32} (hG : lr_G g) {i : Nat} (hi : i < lr_n g 2) : ∃ a b, g (3 + 2 * i) = nI a ∧ a ≤ 4 ∧ g (4 + 2 * i) = nI b ∧ 1 ≤ b ∧ b ≤ 99 := hG.2.2.2.2.2.2.2.2.1 i hi
theorem lr_G_p {g : Nat → Int32} (hG : lr_G g) {i : Nat} (hi : i < lr_n g 35) : (∃ a, g (36 + 4 * i) = nI a ∧ a < lr_n g 2) ∧ (∃ b, g (37 + 4 * i) = nI b - 1 ∧ b ≤ 366) ∧ (∃ c, g (38 + 4 * i) = nI c ∧ c ≤ 9) := hG.2.2.2.2.2.2.2.2.2.1 i hi
theorem lr_G_w {g : Nat → Int32} (hG : lr_G g) {i : Nat} (hi : i < lr_n g 116) : (∃ a, g (118 + 5 * i) = nI a ∧ a ≤ 2) ∧ (∃ b, g (119 + 5 * i) = nI b ∧ b ≤ 1) := hG.2.2.2.2.2.2.2.2.2.2.1 i hi
theorem lr_G_r {g : Nat → Int32} (hG : lr_G g) {i : Nat} (hi : i < lr_n g 167) : (∃ k, g (168 + 5 * i) = nI k ∧ k ≤ 1) ∧ (∃ s, g (169 + 5 * i) = nI s ∧ s < 20 ∧ (g (168 + 5 * i) = 1 → s < lr_n g 2)) ∧ (∃ t, g (170 + 5 * i) = nI t ∧ t < lr_n g 2) ∧ (∃ a b, g (171 + 5 * i) = nI a ∧ g (172 + 5 * i) = nI b ∧ a ≤ b ∧ b ≤ 365) := hG.2.2.2.2.2.2.2.2.2.2.2.1 i hi
theorem lr_G_l {g : Nat → Int32} (hG : lr_G g) {i : Nat} (hi : i < lr_n g 289) : (∃ p, g (290 + 11 * i) = nI p ∧ p < lr_n g 35) ∧ (∃ x, g (291 + 11 * i) = nI x ∧ 1 ≤ x ∧ x ≤ 9) ∧ (∃ x, g (292 + 11 * i) = nI x ∧ x ≤ 1) ∧ (∃ x, g (293 + 11 * i) = nI x ∧ x ≤ lr_n g 0) ∧ (∃ x, g (294 + 11 * i) = nI x ∧ x ≤ 2) ∧ (∃ x, g (295 + 11 * i) = nI x - 1 ∧ x ≤ 366 ∧ (¬ g (294 + 11 * i) = 0 → 1 ≤ x)) ∧ (∃ x, g (296 + 11 * i) = nI x - 1 ∧ x ≤ 5 ∧ (g (294 + 11 * i) = 2 → 1 ≤ x)) ∧ (∃ x, g (297 + 11 * i) = nI x ∧ x ≤ 3) ∧ (∃ x, g (298 + 11 * i) = nI x - 1 ∧ x ≤ 16 ∧ (g (294 + 11 * i) = 1 → 1 ≤ x)) ∧ (∃ x, g (299 + 11 * i) = nI x - 1 ∧ x ≤ 20 ∧ (g (294 + 11 * i) = 1 → g (292 + 11 * i) = 1 → 1 ≤ x)) ∧ (∃ x, g (300 + 11 * i) = nI x - 1 ∧ x ≤ 30) := hG.2.2.2.2.2.2.2.2.2.2.2.2 i hi
theorem lr_ne1 {n : Nat} (h : n < 2 ^ 31) : ¬ nI n = (-1 : Int32) := fun e => nI_pos h (by rw [e]; decide)
theorem lr_tg_ok {g : Nat → Int32} (hG : lr_G g) (c : Nat → Bool) : ∀ n, n ≤ lr_n g 167 → lr_tg g c n = -1 ∨ ∃ t, lr_tg g c n = nI t ∧ t < lr_n g 2
  | 0, _ => Or.inl rfl
  | n + 1, h => by
    unfold lr_tg
    split
    · obtain ⟨-, -, ⟨t, h1, h2⟩, -⟩ := lr_G_r hG (i := n) (by omega)
      exact Or.inr ⟨t, h1, h2⟩
    · exact lr_tg_ok hG c n (by omega)
theorem lr_ld_ok {g : Nat → Int32} (hG : lr_G g) (k s d : Int32) : lr_ld g k s d = -1 ∨ ∃ t, lr_ld g k s d = nI t ∧ t < lr_n g 2 := lr_tg_ok hG _ _ (Nat.le_refl _)
theorem lr_wb_ok {g : Nat → Int32} (hG : lr_G g) {p : Nat} (hp : p < lr_n g 35) (d : Int32) : ∃ h, lr_wb g p d = nI h ∧ h < lr_n g 2 := by
  unfold lr_wb
  rcases lr_ld_ok hG 0 (nI p) d with h | ⟨t, h1, h2⟩
  · rw [if_pos h]
    exact (lr_G_p hG hp).1
  · rw [h1, if_neg (lr_ne1 (by have := lr_mh hG; omega))]
    exact ⟨t, rfl, h2⟩
theorem lr_it_ok {g : Nat → Int32} (hG : lr_G g) (d : Int32) : ∀ (n h : Nat), h < lr_n g 2 → ∃ h', lr_it g d n (nI h) = nI h' ∧ h' < lr_n g 2
  | 0, h, hh => ⟨h, rfl, hh⟩
  | n + 1, h, hh => by
    unfold lr_it
    rcases lr_ld_ok hG 1 (nI h) d with e | ⟨t, h1, h2⟩
    · rw [if_pos e]; exact ⟨h, rfl, hh⟩
    · rw [h1, if_neg (lr_ne1 (by have := lr_mh hG; omega))]
      exact lr_it_ok hG d n t h2
theorem lr_we_ok {g : Nat → Int32} (hG : lr_G g) {p : Nat} (hp : p < lr_n g 35) (d : Int32) : ∃ h, lr_we g p d = nI h ∧ h < lr_n g 2 := by
  obtain ⟨h, h1, h2⟩ := lr_wb_ok hG hp d
  unfold lr_we
  rw [h1]
  exact lr_it_ok hG d 16 h h2
set_option maxHeartbeats 4000000 in
set_option maxRecDepth 100000 in
theorem l_X7_targetOf {g : Nat → Int32} (ki so dy sk : Int32) (μ : pm_Mm) (hR : lr_Rel μ.1 1 g) (hG : lr_G g) : ∀ n : Nat, ∀ x : Int32, n ≤ lr_n g 167 → x = nI n - 1 → lr_tgo g ki so dy sk = lr_tg g (fun r => !(decide (nI r = sk)) && lr_rc g ki so dy r) n → pm_V mi_X7_targetOf ((fun v μ2 => v = some (.int (lr_tgo g ki so dy sk)) ∧ μ2 = μ), pm_NX, fun _ _ _ => True) 0 0 8 [some (.ref 16), some (.int ki), some (.int so), some (.int dy), some (.int sk), some (.int x)] [] μ := by
  have hm1 := lr_mh hG; have hm2 := lr_mw hG; have hm3 := lr_mp hG; have hm4 := lr_mr hG; have hm5 := lr_ma hG; have hm6 := lr_ml hG
  intro n
  induction n with
  | zero =>
    intro x hn hx he
    refine pm_bl [(.iload 5, 2, 5, 0, 0)] (pc1 := 10) (lo1 := [some (.ref 16), some (.int ki), some (.int so), some (.int dy), some (.int sk), some (.int x)]) (st1 := [.int x]) (μ1 := μ) (vc := True) rfl (by decide +kernel) rfl trivial ?_
    refine pm_if_lt (off := 67) 77 (by decide +kernel) (by decide) (fun (h10 : x < 0) => ?_) (fun (h9 : ¬ (x < 0)) => absurd (by rw [hx, nI_0]; decide) h9)
    refine pm_bl [(.iconst (-1), 1, 0, 0, (-1))] (pc1 := 78) (lo1 := [some (.ref 16), some (.int ki), some (.int so), some (.int dy), some (.int sk), some (.int x)]) (st1 := [.int (-1)]) (μ1 := μ) (vc := True) rfl (by decide +kernel) rfl trivial ?_
    exact pm_iret (ty := .int) rfl rfl (by decide) (by decide) (by decide +kernel) (⟨by rw [he]; rfl, rfl⟩)
  | succ n ih =>
    intro x hn hx he
    rw [nI_pred] at hx
    subst hx
    refine pm_bl [(.iload 5, 2, 5, 0, 0)] (pc1 := 10) (lo1 := [some (.ref 16), some (.int ki), some (.int so), some (.int dy), some (.int sk), some (.int (nI n))]) (st1 := [.int (nI n)]) (μ1 := μ) (vc := True) rfl (by decide +kernel) rfl trivial ?_
    refine pm_if_lt (off := 67) 77 (by decide +kernel) (by decide) (fun (h9 : (nI n) < 0) => absurd h9 (nI_pos (by omega))) (fun (h10 : ¬ ((nI n) < 0)) => ?_)
    refine pm_bl [(.iload 5, 2, 5, 0, 0), (.iload 4, 2, 4, 0, 0)] (pc1 := 17) (lo1 := [some (.ref 16), some (.int ki), some (.int so), some (.int dy), some (.int sk), some (.int (nI n))]) (st1 := [.int sk, .int (nI n)]) (μ1 := μ) (vc := True) rfl (by decide +kernel) rfl trivial ?_
    refine pm_icmp_eq (off := 54) 71 (by decide +kernel) (by decide) (fun (h17 : (nI n) = sk) => ?_) (fun (h17 : ¬ ((nI n) = sk)) => ?_)
    · refine pm_bl [(.iinc 5 (-1), 3, 5, 0, (-1)), (.goto (-66), 3, 8, 0, 0)] (pc1 := 8) (lo1 := [some (.ref 16), some (.int ki), some (.int so), some (.int dy), some (.int sk), some (.int ((nI n) + (-1)))]) (st1 := []) (μ1 := μ) (vc := True) rfl (by decide +kernel) rfl trivial ?_
      exact ih _ (by omega) (by rw [Int32.sub_eq_add_neg]) (by rw [he]; simp only [lr_tg]; rw [if_neg (by simp_all [lr_rc])])
    · refine pm_bl [(.aload_n 0, 1, 0, 0, 0), (.getfield 15, 3, 7, 1, 0), (.iload 5, 2, 5, 0, 0), (.iaload, 1, 0, 0, 0), (.iload_n 1, 1, 1, 0, 0)] (pc1 := 28) (lo1 := [some (.ref 16), some (.int ki), some (.int so), some (.int dy), some (.int sk), some (.int (nI n))]) (st1 := [.int ki, .int (μ.1 17 (nI n).toNatClampNeg)]) (μ1 := μ) (vc := vp_in (nI n) 12 ∧ True) rfl (by decide +kernel) rfl ⟨(vp_in_nI (by omega) (by omega)), trivial⟩ ?_
      first | rw [nI_clamp (n := n) (by omega), lr_rrki hR (i := n) (by omega)] | rw [lr_rrki hR (i := n) (by omega)]
      refine pm_icmp_ne (off := 43) 71 (by decide +kernel) (by decide) (fun (h28 : ¬ (g (168 + 5 * n)) = ki) => ?_) (fun (h28 : (g (168 + 5 * n)) = ki) => ?_)
      · refine pm_bl [(.iinc 5 (-1), 3, 5, 0, (-1)), (.goto (-66), 3, 8, 0, 0)] (pc1 := 8) (lo1 := [some (.ref 16), some (.int ki), some (.int so), some (.int dy), some (.int sk), some (.int ((nI n) + (-1)))]) (st1 := []) (μ1 := μ) (vc := True) rfl (by decide +kernel) rfl trivial ?_
        exact ih _ (by omega) (by rw [Int32.sub_eq_add_neg]) (by rw [he]; simp only [lr_tg]; rw [if_neg (by simp_all [lr_rc])])
      · refine pm_bl [(.aload_n 0, 1, 0, 0, 0), (.getfield 19, 3, 7, 2, 0), (.iload 5, 2, 5, 0, 0), (.iaload, 1, 0, 0, 0), (.iload_n 2, 1, 2, 0, 0)] (pc1 := 39) (lo1 := [some (.ref 16), some (.int ki), some (.int so), some (.int dy), some (.int sk), some (.int (nI n))]) (st1 := [.int so, .int (μ.1 18 (nI n).toNatClampNeg)]) (μ1 := μ) (vc := vp_in (nI n) 12 ∧ True) rfl (by decide +kernel) rfl ⟨(vp_in_nI (by omega) (by omega)), trivial⟩ ?_
        first | rw [nI_clamp (n := n) (by omega), lr_rrso hR (i := n) (by omega)] | rw [lr_rrso hR (i := n) (by omega)]
        refine pm_icmp_ne (off := 32) 71 (by decide +kernel) (by decide) (fun (h39 : ¬ (g (169 + 5 * n)) = so) => ?_) (fun (h39 : (g (169 + 5 * n)) = so) => ?_)
        · refine pm_bl [(.iinc 5 (-1), 3, 5, 0, (-1)), (.goto (-66), 3, 8, 0, 0)] (pc1 := 8) (lo1 := [some (.ref 16), some (.int ki), some (.int so), some (.int dy), some (.int sk), some (.int ((nI n) + (-1)))]) (st1 := []) (μ1 := μ) (vc := True) rfl (by decide +kernel) rfl trivial ?_
          exact ih _ (by omega) (by rw [Int32.sub_eq_add_neg]) (by rw [he]; simp only [lr_tg]; rw [if_neg (by simp_all [lr_rc])])
        · refine pm_bl [(.iload_n 3, 1, 3, 0, 0), (.aload_n 0, 1, 0, 0, 0), (.getfield 25, 3, 7, 4, 0), (.iload 5, 2, 5, 0, 0), (.iaload, 1, 0, 0, 0), (.aload_n 0, 1, 0, 0, 0), (.getfield 28, 3, 7, 5, 0), (.iload 5, 2, 5, 0, 0), (.iaload, 1, 0, 0, 0)] (pc1 := 57) (lo1 := [some (.ref 16), some (.int ki), some (.int so), some (.int dy), some (.int sk), some (.int (nI n))]) (st1 := [.int (μ.1 21 (nI n).toNatClampNeg), .int (μ.1 20 (nI n).toNatClampNeg), .int dy]) (μ1 := μ) (vc := vp_in (nI n) 12 ∧ vp_in (nI n) 12 ∧ True) rfl (by decide +kernel) rfl ⟨(vp_in_nI (by omega) (by omega)), (vp_in_nI (by omega) (by omega)), trivial⟩ ?_
          first | rw [nI_clamp (n := n) (by omega), lr_rrfi hR (i := n) (by omega)] | rw [lr_rrfi hR (i := n) (by omega)]
          first | rw [nI_clamp (n := n) (by omega), lr_rrla hR (i := n) (by omega)] | rw [lr_rrla hR (i := n) (by omega)]
          refine pm_callSN2 mi_X9_isBetween (ix := 39) (host := RX9) (kc2 := 0) (ks2 := 0) (As := [.int dy, .int (g (171 + 5 * n)), .int (g (172 + 5 * n))]) (rest := []) (c_X9_isBetween dy (g (171 + 5 * n)) (g (172 + 5 * n)) μ) cal_X9_isBetween (by decide +kernel) (by decide +kernel) (by decide +kernel) rfl rfl (Nat.le_of_ble_eq_true rfl) (by decide) (by decide) ?_
          rintro _ _ ⟨rfl, h9⟩; rw [h9]; clear h9
          show pm_V _ _ _ _ 60 _ [.int (lr_b (lr_in dy (g (171 + 5 * n)) (g (172 + 5 * n))))] _
          refine pm_ifb_eq (off := 11) 71 (by decide +kernel) (by decide) (fun (h60 : (lr_in dy (g (171 + 5 * n)) (g (172 + 5 * n))) = false) => ?_) (fun (h60 : (lr_in dy (g (171 + 5 * n)) (g (172 + 5 * n))) = true) => ?_)
          · refine pm_bl [(.iinc 5 (-1), 3, 5, 0, (-1)), (.goto (-66), 3, 8, 0, 0)] (pc1 := 8) (lo1 := [some (.ref 16), some (.int ki), some (.int so), some (.int dy), some (.int sk), some (.int ((nI n) + (-1)))]) (st1 := []) (μ1 := μ) (vc := True) rfl (by decide +kernel) rfl trivial ?_
            exact ih _ (by omega) (by rw [Int32.sub_eq_add_neg]) (by rw [he]; simp only [lr_tg]; rw [if_neg (by simp_all [lr_rc])])
          · refine pm_bl [(.aload_n 0, 1, 0, 0, 0), (.getfield 22, 3, 7, 3, 0), (.iload 5, 2, 5, 0, 0), (.iaload, 1, 0, 0, 0)] (pc1 := 70) (lo1 := [some (.ref 16), some (.int ki), some (.int so), some (.int dy), some (.int sk), some (.int (nI n))]) (st1 := [.int (μ.1 19 (nI n).toNatClampNeg)]) (μ1 := μ) (vc := vp_in (nI n) 12 ∧ True) rfl (by decide +kernel) rfl ⟨(vp_in_nI (by omega) (by omega)), trivial⟩ ?_
            first | rw [nI_clamp (n := n) (by omega), lr_rrta hR (i := n) (by omega)] | rw [lr_rrta hR (i := n) (by omega)]
            exact pm_iret (ty := .int) rfl rfl (by decide) (by decide) (by decide +kernel) (⟨by rw [he]; simp only [lr_tg]; rw [if_pos (by simp_all [lr_rc])], rfl⟩)
set_option maxHeartbeats 4000000 in
set_option maxRecDepth 100000 in
theorem c_X7_targetOf {g : Nat → Int32} (ki so dy sk : Int32) (μ : pm_Mm) (hR : lr_Rel μ.1 1 g) (hG : lr_G g) : pm_CT mi_X7_targetOf [.ref 16, .int ki, .int so, .int dy, .int sk] μ (fun v μ2 => v = some (.int (lr_tgo g ki so dy sk)) ∧ μ2 = μ) pm_NX := by
  refine pm_CT_of (lo := [some (.ref 16), some (.int ki), some (.int so), some (.int dy), some (.int sk), none]) (by decide +kernel) rfl rfl (by intro v hv; simp at hv; rcases hv with rfl | rfl | rfl | rfl | rfl <;> rfl) (Nat.le_of_ble_eq_true rfl) rfl ?_
  have hm1 := lr_mh hG; have hm2 := lr_mw hG; have hm3 := lr_mp hG; have hm4 := lr_mr hG; have hm5 := lr_ma hG; have hm6 := lr_ml hG
  refine pm_bl [(.aload_n 0, 1, 0, 0, 0), (.getfield 9, 3, 7, 0, 0), (.iconst 1, 1, 0, 0, 1), (.isub, 1, 0, 0, 0), (.istore 5, 2, 5, 0, 0)] (pc1 := 8) (lo1 := [some (.ref 16), some (.int ki), some (.int so), some (.int dy), some (.int sk), some (.int ((μ.1 16 0) - 1))]) (st1 := []) (μ1 := μ) (vc := True) rfl (by decide +kernel) rfl trivial ?_
  rw [lr_rNr hR, lr_gr hG]
  exact l_X7_targetOf ki so dy sk μ hR hG (lr_n g 167) _ (Nat.le_refl _) rfl rfl
set_option maxHeartbeats 4000000 in
set_option maxRecDepth 100000 in
theorem c_X5_startOfWay {g : Nat → Int32} {p : Nat} (dy : Int32) (μ : pm_Mm) (hR : lr_Rel μ.1 1 g) (hG : lr_G g) (hp : p < lr_n g 35) : pm_CT mi_X5_startOfWay [.ref 1, .int (nI p), .int dy] μ (fun v μ2 => v = some (.int (lr_wb g p dy)) ∧ μ2 = μ) pm_NX := by
  refine pm_CT_of (lo := [some (.ref 1), some (.int (nI p)), some (.int dy), none]) (by decide +kernel) rfl rfl (by intro v hv; simp at hv; rcases hv with rfl | rfl | rfl <;> rfl) (Nat.le_of_ble_eq_true rfl) rfl ?_
  have hm1 := lr_mh hG; have hm2 := lr_mw hG; have hm3 := lr_mp hG; have hm4 := lr_mr hG; have hm5 := lr_ma hG; have hm6 := lr_ml hG
  have hbe : lr_be (nI p) (nI (lr_n g 35)) = true := by rw [lr_be_nI (by omega) (by omega)]; exact decide_eq_true hp
  refine pm_bl [(.iload_n 1, 1, 1, 0, 0), (.aload_n 0, 1, 0, 0, 0), (.getfield 21, 3, 5, 1, 0), (.getfield 108, 3, 6, 0, 0)] (pc1 := 8) (lo1 := [some (.ref 1), some (.int (nI p)), some (.int dy), none]) (st1 := [.int (μ.1 5 0), .int (nI p)]) (μ1 := μ) (vc := True) rfl (by decide +kernel) rfl trivial ?_
  rw [lr_rNp hR, lr_gp hG]
  refine pm_callSN2 mi_X9_isBelow (ix := 83) (host := RX9) (kc2 := 0) (ks2 := 0) (As := [.int (nI p), .int (nI (lr_n g 35))]) (rest := []) (c_X9_isBelow (nI p) (nI (lr_n g 35)) μ) cal_X9_isBelow (by decide +kernel) (by decide +kernel) (by decide +kernel) rfl rfl (Nat.le_of_ble_eq_true rfl) (by decide) (by decide) ?_
  rintro _ _ ⟨rfl, h9⟩; rw [h9]; clear h9
  rw [hbe]
  show pm_V _ _ _ _ 11 _ [.int 1] _
  refine pm_if_ne (off := 5) 16 (by decide +kernel) (by decide) (fun _ => ?_) (fun h9 => absurd h9 (by decide))
  refine pm_bl [(.aload_n 0, 1, 0, 0, 0), (.getfield 35, 3, 5, 3, 0), (.iconst 0, 1, 0, 0, 0), (.iload_n 1, 1, 1, 0, 0), (.iload_n 2, 1, 2, 0, 0), (.iconst (-1), 1, 0, 0, (-1))] (pc1 := 24) (lo1 := [some (.ref 1), some (.int (nI p)), some (.int dy), none]) (st1 := [.int (-1), .int dy, .int (nI p), .int 0, .ref 16]) (μ1 := μ) (vc := True) rfl (by decide +kernel) rfl trivial ?_
  refine pm_callV2 mi_X7_targetOf (ix := 109) (b := 16) (ci := 7) (kc2 := 0) (ks2 := 0) (As := [.int 0, .int (nI p), .int dy, .int (-1)]) (rest := []) (c_X7_targetOf 0 (nI p) dy (-1) μ hR hG) cal_X7_targetOf lk5_109 (by decide +kernel) rfl (by decide +kernel) rfl rfl rfl rfl (Nat.le_of_ble_eq_true rfl) (by decide) (by decide) (fun _ _ h9 => h9.elim) ?_
  rintro _ _ ⟨rfl, h9⟩; rw [h9]; clear h9; rw [lr_tgo_no _ _ _ _ (by omega)]
  show pm_V _ _ _ _ 27 _ [.int (lr_ld g 0 (nI p) dy)] _
  refine pm_bl [(.istore_n 3, 1, 3, 0, 0), (.iload_n 3, 1, 3, 0, 0), (.iconst (-1), 1, 0, 0, (-1))] (pc1 := 30) (lo1 := [some (.ref 1), some (.int (nI p)), some (.int dy), some (.int (lr_ld g 0 (nI p) dy))]) (st1 := [.int (-1), .int (lr_ld g 0 (nI p) dy)]) (μ1 := μ) (vc := True) rfl (by decide +kernel) rfl trivial ?_
  refine pm_icmp_ne (off := 15) 45 (by decide +kernel) (by decide) (fun (h30 : ¬ (lr_ld g 0 (nI p) dy) = (-1)) => ?_) (fun (h30 : (lr_ld g 0 (nI p) dy) = (-1)) => ?_)
  · refine pm_bl [(.iload_n 3, 1, 3, 0, 0)] (pc1 := 46) (lo1 := [some (.ref 1), some (.int (nI p)), some (.int dy), some (.int (lr_ld g 0 (nI p) dy))]) (st1 := [.int (lr_ld g 0 (nI p) dy)]) (μ1 := μ) (vc := True) rfl (by decide +kernel) rfl trivial ?_
    exact pm_iret (ty := .int) rfl rfl (by decide) (by decide) (by decide +kernel) (⟨by clear hbe; simp_all [lr_wb], rfl⟩)
  · refine pm_bl [(.aload_n 0, 1, 0, 0, 0), (.getfield 21, 3, 5, 1, 0), (.getfield 113, 3, 6, 1, 0), (.iload_n 1, 1, 1, 0, 0), (.iaload, 1, 0, 0, 0), (.goto 4, 3, 46, 0, 0)] (pc1 := 46) (lo1 := [some (.ref 1), some (.int (nI p)), some (.int dy), some (.int (lr_ld g 0 (nI p) dy))]) (st1 := [.int (μ.1 6 (nI p).toNatClampNeg)]) (μ1 := μ) (vc := vp_in (nI p) 20 ∧ True) rfl (by decide +kernel) rfl ⟨(vp_in_nI (by omega) (by omega)), trivial⟩ ?_
    first | rw [nI_clamp (n := p) (by omega), lr_rpho hR (i := p) hp] | rw [lr_rpho hR (i := p) hp]
    exact pm_iret (ty := .int) rfl rfl (by decide) (by decide) (by decide +kernel) (⟨by clear hbe; simp_all [lr_wb], rfl⟩)
set_option maxHeartbeats 4000000 in
set_option maxRecDepth 100000 in
theorem l_X5_endOfWay {g : Nat → Int32} (p : Nat) (dy : Int32) (μ : pm_Mm) (hR : lr_Rel μ.1 1 g) (hG : lr_G g) : ∀ n k : Nat, ∀ x : Int32, k + n = 16 → lr_we g p dy = lr_it g dy n x → pm_V mi_X5_endOfWay ((fun v μ2 => v = some (.int (lr_we g p dy)) ∧ μ2 = μ), pm_NX, fun _ _ _ => True) 0 0 10 [some (.ref 1), some (.int (nI p)), some (.int dy), some (.int x), some (.int (nI k)), none] [] μ := by
  have hm1 := lr_mh hG; have hm2 := lr_mw hG; have hm3 := lr_mp hG; have hm4 := lr_mr hG; have hm5 := lr_ma hG; have hm6 := lr_ml hG
  intro n
  induction n with
  | zero =>
    intro k x hk he
    refine pm_bl [(.iload 4, 2, 4, 0, 0), (.bipush 16, 2, 0, 0, 16)] (pc1 := 14) (lo1 := [some (.ref 1), some (.int (nI p)), some (.int dy), some (.int x), some (.int (nI k)), none]) (st1 := [.int 16, .int (nI k)]) (μ1 := μ) (vc := True) rfl (by decide +kernel) rfl trivial ?_
    refine pm_icmp_ge (off := 33) 47 (by decide +kernel) (by decide) (fun (h14 : 16 ≤ (nI k)) => ?_) (fun (h9 : ¬ (16 ≤ (nI k))) => absurd (nI_le (a := 16) (by omega) (by omega)) h9)
    refine pm_bl [(.iload_n 3, 1, 3, 0, 0)] (pc1 := 48) (lo1 := [some (.ref 1), some (.int (nI p)), some (.int dy), some (.int x), some (.int (nI k)), none]) (st1 := [.int x]) (μ1 := μ) (vc := True) rfl (by decide +kernel) rfl trivial ?_
    exact pm_iret (ty := .int) rfl rfl (by decide) (by decide) (by decide +kernel) (⟨by rw [he]; rfl, rfl⟩)
  | succ n ih =>
    intro k x hk he
    refine pm_bl [(.iload 4, 2, 4, 0, 0), (.bipush 16, 2, 0, 0, 16)] (pc1 := 14) (lo1 := [some (.ref 1), some (.int (nI p)), some (.int dy), some (.int x), some (.int (nI k)), none]) (st1 := [.int 16, .int (nI k)]) (μ1 := μ) (vc := True) rfl (by decide +kernel) rfl trivial ?_
    refine pm_icmp_ge (off := 33) 47 (by decide +kernel) (by decide) (fun (h9 : 16 ≤ (nI k)) => absurd h9 (nI_ge (b := 16) (by omega) (by omega))) (fun (h14 : ¬ (16 ≤ (nI k))) => ?_)
    refine pm_bl [(.aload_n 0, 1, 0, 0, 0), (.getfield 35, 3, 5, 3, 0), (.iconst 1, 1, 0, 0, 1), (.iload_n 3, 1, 3, 0, 0), (.iload_n 2, 1, 2, 0, 0), (.iconst (-1), 1, 0, 0, (-1))] (pc1 := 25) (lo1 := [some (.ref 1), some (.int (nI p)), some (.int dy), some (.int x), some (.int (nI k)), none]) (st1 := [.int (-1), .int dy, .int x, .int 1, .ref 16]) (μ1 := μ) (vc := True) rfl (by decide +kernel) rfl trivial ?_
    refine pm_callV2 mi_X7_targetOf (ix := 109) (b := 16) (ci := 7) (kc2 := 0) (ks2 := 0) (As := [.int 1, .int x, .int dy, .int (-1)]) (rest := []) (c_X7_targetOf 1 x dy (-1) μ hR hG) cal_X7_targetOf lk5_109 (by decide +kernel) rfl (by decide +kernel) rfl rfl rfl rfl (Nat.le_of_ble_eq_true rfl) (by decide) (by decide) (fun _ _ h9 => h9.elim) ?_
    rintro _ _ ⟨rfl, h9⟩; rw [h9]; clear h9; rw [lr_tgo_no _ _ _ _ (by omega)]
    show pm_V _ _ _ _ 28 _ [.int (lr_ld g 1 x dy)] _
    refine pm_bl [(.istore 5, 2, 5, 0, 0), (.iload 5, 2, 5, 0, 0), (.iconst (-1), 1, 0, 0, (-1))] (pc1 := 33) (lo1 := [some (.ref 1), some (.int (nI p)), some (.int dy), some (.int x), some (.int (nI k)), some (.int (lr_ld g 1 x dy))]) (st1 := [.int (-1), .int (lr_ld g 1 x dy)]) (μ1 := μ) (vc := True) rfl (by decide +kernel) rfl trivial ?_
    refine pm_icmp_ne (off := 5) 38 (by decide +kernel) (by decide) (fun (h33 : ¬ (lr_ld g 1 x dy) = (-1)) => ?_) (fun (h33 : (lr_ld g 1 x dy) = (-1)) => ?_)
    · refine pm_bl [(.iload 5, 2, 5, 0, 0), (.istore_n 3, 1, 3, 0, 0), (.iinc 4 1, 3, 4, 0, 1), (.goto (-34), 3, 10, 0, 0)] (pc1 := 10) (lo1 := [some (.ref 1), some (.int (nI p)), some (.int dy), some (.int (lr_ld g 1 x dy)), some (.int ((nI k) + 1)), some (.int (lr_ld g 1 x dy))]) (st1 := []) (μ1 := μ) (vc := True) rfl (by decide +kernel) rfl trivial ?_
      refine pm_V.drop (lo' := [some (.ref 1), some (.int (nI p)), some (.int dy), some (.int (lr_ld g 1 x dy)), some (.int (nI k + 1)), none]) ⟨rfl, rfl, rfl, rfl, rfl, trivial⟩ ?_; rw [nI_1]; exact ih (k + 1) _ (by omega) (by rw [he]; simp only [lr_it]; rw [if_neg h33])
    · refine pm_bl [(.iload_n 3, 1, 3, 0, 0)] (pc1 := 37) (lo1 := [some (.ref 1), some (.int (nI p)), some (.int dy), some (.int x), some (.int (nI k)), some (.int (lr_ld g 1 x dy))]) (st1 := [.int x]) (μ1 := μ) (vc := True) rfl (by decide +kernel) rfl trivial ?_
      exact pm_iret (ty := .int) rfl rfl (by decide) (by decide) (by decide +kernel) (⟨by rw [he]; simp only [lr_it]; rw [if_pos h33], rfl⟩)
set_option maxHeartbeats 4000000 in
set_option maxRecDepth 100000 in
theorem c_X5_endOfWay {g : Nat → Int32} {p : Nat} (dy : Int32) (μ : pm_Mm) (hR : lr_Rel μ.1 1 g) (hG : lr_G g) (hp : p < lr_n g 35) : pm_CT mi_X5_endOfWay [.ref 1, .int (nI p), .int dy] μ (fun v μ2 => v = some (.int (lr_we g p dy)) ∧ μ2 = μ) pm_NX := by
  refine pm_CT_of (lo := [some (.ref 1), some (.int (nI p)), some (.int dy), none, none, none]) (by decide +kernel) rfl rfl (by intro v hv; simp at hv; rcases hv with rfl | rfl | rfl <;> rfl) (Nat.le_of_ble_eq_true rfl) rfl ?_
  have hm1 := lr_mh hG; have hm2 := lr_mw hG; have hm3 := lr_mp hG; have hm4 := lr_mr hG; have hm5 := lr_ma hG; have hm6 := lr_ml hG
  refine pm_bl [(.aload_n 0, 1, 0, 0, 0), (.iload_n 1, 1, 1, 0, 0), (.iload_n 2, 1, 2, 0, 0)] (pc1 := 3) (lo1 := [some (.ref 1), some (.int (nI p)), some (.int dy), none, none, none]) (st1 := [.int dy, .int (nI p), .ref 1]) (μ1 := μ) (vc := True) rfl (by decide +kernel) rfl trivial ?_
  refine pm_callV2 mi_X5_startOfWay (ix := 116) (b := 1) (ci := 5) (kc2 := 0) (ks2 := 0) (As := [.int (nI p), .int dy]) (rest := []) (c_X5_startOfWay (p := p) dy μ hR hG (by omega)) cal_X5_startOfWay lk5_116 (by decide +kernel) rfl (by decide +kernel) rfl rfl rfl rfl (Nat.le_of_ble_eq_true rfl) (by decide) (by decide) (fun _ _ h9 => h9.elim) ?_
  rintro _ _ ⟨rfl, h9⟩; rw [h9]; clear h9
  show pm_V _ _ _ _ 6 _ [.int (lr_wb g p dy)] _
  refine pm_bl [(.istore_n 3, 1, 3, 0, 0), (.iconst 0, 1, 0, 0, 0), (.istore 4, 2, 4, 0, 0)] (pc1 := 10) (lo1 := [some (.ref 1), some (.int (nI p)), some (.int dy), some (.int (lr_wb g p dy)), some (.int 0), none]) (st1 := []) (μ1 := μ) (vc := True) rfl (by decide +kernel) rfl trivial ?_
  exact l_X5_endOfWay p dy μ hR hG 16 0 _ (by omega) rfl
set_option maxHeartbeats 4000000 in
set_option maxRecDepth 100000 in
theorem l_X5_houseOnWay {g : Nat → Int32} (p N : Nat) (hN : N < 16) (x0 dy : Int32) (μ : pm_Mm) (hR : lr_Rel μ.1 1 g) (hG : lr_G g) : ∀ n k : Nat, ∀ x : Int32, k + n = N → lr_on g dy N x0 = lr_on g dy n x → pm_V mi_X5_houseOnWay ((fun v μ2 => v = some (.int (lr_on g dy N x0)) ∧ μ2 = μ), pm_NX, fun _ _ _ => True) 0 0 19 [some (.ref 1), some (.int (nI p)), some (.int dy), some (.int (nI N)), some (.int x), some (.int (nI k))] [] μ := by
  have hm1 := lr_mh hG; have hm2 := lr_mw hG; have hm3 := lr_mp hG; have hm4 := lr_mr hG; have hm5 := lr_ma hG; have hm6 := lr_ml hG
  intro n
  induction n with
  | zero =>
    intro k x hk he
    refine pm_bl [(.iload 5, 2, 5, 0, 0), (.iload_n 3, 1, 3, 0, 0)] (pc1 := 22) (lo1 := [some (.ref 1), some (.int (nI p)), some (.int dy), some (.int (nI N)), some (.int x), some (.int (nI k))]) (st1 := [.int (nI N), .int (nI k)]) (μ1 := μ) (vc := True) rfl (by decide +kernel) rfl trivial ?_
    refine pm_icmp_ge (off := 29) 51 (by decide +kernel) (by decide) (fun (h22 : (nI N) ≤ (nI k)) => ?_) (fun (h9 : ¬ ((nI N) ≤ (nI k))) => absurd (nI_le (by omega) (by omega)) h9)
    refine pm_bl [(.iload 4, 2, 4, 0, 0)] (pc1 := 53) (lo1 := [some (.ref 1), some (.int (nI p)), some (.int dy), some (.int (nI N)), some (.int x), some (.int (nI k))]) (st1 := [.int x]) (μ1 := μ) (vc := True) rfl (by decide +kernel) rfl trivial ?_
    exact pm_iret (ty := .int) rfl rfl (by decide) (by decide) (by decide +kernel) (⟨by rw [he]; rfl, rfl⟩)
  | succ n ih =>
    intro k x hk he
    refine pm_bl [(.iload 5, 2, 5, 0, 0), (.iload_n 3, 1, 3, 0, 0)] (pc1 := 22) (lo1 := [some (.ref 1), some (.int (nI p)), some (.int dy), some (.int (nI N)), some (.int x), some (.int (nI k))]) (st1 := [.int (nI N), .int (nI k)]) (μ1 := μ) (vc := True) rfl (by decide +kernel) rfl trivial ?_
    refine pm_icmp_ge (off := 29) 51 (by decide +kernel) (by decide) (fun (h9 : (nI N) ≤ (nI k)) => absurd h9 (nI_ge (by omega) (by omega))) (fun (h22 : ¬ ((nI N) ≤ (nI k))) => ?_)
    refine pm_bl [(.iload 4, 2, 4, 0, 0), (.iconst (-1), 1, 0, 0, (-1))] (pc1 := 28) (lo1 := [some (.ref 1), some (.int (nI p)), some (.int dy), some (.int (nI N)), some (.int x), some (.int (nI k))]) (st1 := [.int (-1), .int x]) (μ1 := μ) (vc := True) rfl (by decide +kernel) rfl trivial ?_
    refine pm_icmp_eq (off := 23) 51 (by decide +kernel) (by decide) (fun (h28 : x = (-1)) => ?_) (fun (h28 : ¬ (x = (-1))) => ?_)
    · refine pm_bl [(.iload 4, 2, 4, 0, 0)] (pc1 := 53) (lo1 := [some (.ref 1), some (.int (nI p)), some (.int dy), some (.int (nI N)), some (.int x), some (.int (nI k))]) (st1 := [.int x]) (μ1 := μ) (vc := True) rfl (by decide +kernel) rfl trivial ?_
      exact pm_iret (ty := .int) rfl rfl (by decide) (by decide) (by decide +kernel) (⟨by rw [he]; simp only [lr_on]; rw [if_pos h28], rfl⟩)
    · refine pm_bl [(.aload_n 0, 1, 0, 0, 0), (.getfield 35, 3, 5, 3, 0), (.iconst 1, 1, 0, 0, 1), (.iload 4, 2, 4, 0, 0), (.iload_n 2, 1, 2, 0, 0), (.iconst (-1), 1, 0, 0, (-1))] (pc1 := 40) (lo1 := [some (.ref 1), some (.int (nI p)), some (.int dy), some (.int (nI N)), some (.int x), some (.int (nI k))]) (st1 := [.int (-1), .int dy, .int x, .int 1, .ref 16]) (μ1 := μ) (vc := True) rfl (by decide +kernel) rfl trivial ?_
      refine pm_callV2 mi_X7_targetOf (ix := 109) (b := 16) (ci := 7) (kc2 := 0) (ks2 := 0) (As := [.int 1, .int x, .int dy, .int (-1)]) (rest := []) (c_X7_targetOf 1 x dy (-1) μ hR hG) cal_X7_targetOf lk5_109 (by decide +kernel) rfl (by decide +kernel) rfl rfl rfl rfl (Nat.le_of_ble_eq_true rfl) (by decide) (by decide) (fun _ _ h9 => h9.elim) ?_
      rintro _ _ ⟨rfl, h9⟩; rw [h9]; clear h9; rw [lr_tgo_no _ _ _ _ (by omega)]
      show pm_V _ _ _ _ 43 _ [.int (lr_ld g 1 x dy)] _
      refine pm_bl [(.istore 4, 2, 4, 0, 0), (.iinc 5 1, 3, 5, 0, 1), (.goto (-29), 3, 19, 0, 0)] (pc1 := 19) (lo1 := [some (.ref 1), some (.int (nI p)), some (.int dy), some (.int (nI N)), some (.int (lr_ld g 1 x dy)), some (.int ((nI k) + 1))]) (st1 := []) (μ1 := μ) (vc := True) rfl (by decide +kernel) rfl trivial ?_
      rw [nI_1]; exact ih (k + 1) _ (by omega) (by rw [he]; simp only [lr_on]; rw [if_neg h28])
set_option maxHeartbeats 4000000 in
set_option maxRecDepth 100000 in
theorem c_X5_houseOnWay {g : Nat → Int32} {p : Nat} (dy : Int32) {ix : Int32} {N : Nat} (hi : ix = nI N) (hN2 : N < 2 ^ 31) (μ : pm_Mm) (hR : lr_Rel μ.1 1 g) (hG : lr_G g) (hp : p < lr_n g 35) : pm_CT mi_X5_houseOnWay [.ref 1, .int (nI p), .int dy, .int ix] μ (fun v μ2 => v = some (.int (if N < 16 then lr_on g dy N (lr_wb g p dy) else -1)) ∧ μ2 = μ) pm_NX := by
  refine pm_CT_of (lo := [some (.ref 1), some (.int (nI p)), some (.int dy), some (.int ix), none, none]) (by decide +kernel) rfl rfl (by intro v hv; simp at hv; rcases hv with rfl | rfl | rfl | rfl <;> rfl) (Nat.le_of_ble_eq_true rfl) rfl ?_
  have hm1 := lr_mh hG; have hm2 := lr_mw hG; have hm3 := lr_mp hG; have hm4 := lr_mr hG; have hm5 := lr_ma hG; have hm6 := lr_ml hG
  subst hi
  refine pm_bl [(.iload_n 3, 1, 3, 0, 0), (.bipush 16, 2, 0, 0, 16)] (pc1 := 3) (lo1 := [some (.ref 1), some (.int (nI p)), some (.int dy), some (.int (nI N)), none, none]) (st1 := [.int 16, .int (nI N)]) (μ1 := μ) (vc := True) rfl (by decide +kernel) rfl trivial ?_
  refine pm_icmp_lt (off := 5) 8 (by decide +kernel) (by decide) (fun (h3 : (nI N) < 16) => ?_) (fun (h3 : ¬ ((nI N) < 16)) => ?_)
  · refine pm_bl [(.aload_n 0, 1, 0, 0, 0), (.iload_n 1, 1, 1, 0, 0), (.iload_n 2, 1, 2, 0, 0)] (pc1 := 11) (lo1 := [some (.ref 1), some (.int (nI p)), some (.int dy), some (.int (nI N)), none, none]) (st1 := [.int dy, .int (nI p), .ref 1]) (μ1 := μ) (vc := True) rfl (by decide +kernel) rfl trivial ?_
    refine pm_callV2 mi_X5_startOfWay (ix := 116) (b := 1) (ci := 5) (kc2 := 0) (ks2 := 0) (As := [.int (nI p), .int dy]) (rest := []) (c_X5_startOfWay (p := p) dy μ hR hG (by omega)) cal_X5_startOfWay lk5_116 (by decide +kernel) rfl (by decide +kernel) rfl rfl rfl rfl (Nat.le_of_ble_eq_true rfl) (by decide) (by decide) (fun _ _ h9 => h9.elim) ?_
    rintro _ _ ⟨rfl, h9⟩; rw [h9]; clear h9
    show pm_V _ _ _ _ 14 _ [.int (lr_wb g p dy)] _
    refine pm_bl [(.istore 4, 2, 4, 0, 0), (.iconst 0, 1, 0, 0, 0), (.istore 5, 2, 5, 0, 0)] (pc1 := 19) (lo1 := [some (.ref 1), some (.int (nI p)), some (.int dy), some (.int (nI N)), some (.int (lr_wb g p dy)), some (.int 0)]) (st1 := []) (μ1 := μ) (vc := True) rfl (by decide +kernel) rfl trivial ?_
    have hN : N < 16 := by rcases Nat.lt_or_ge N 16 with q | q; exact q; exact absurd h3 (nI_nlt q hN2)
    rw [if_pos hN]
    exact l_X5_houseOnWay p N hN _ dy μ hR hG N 0 _ (by omega) rfl
  · refine pm_bl [(.iconst (-1), 1, 0, 0, (-1))] (pc1 := 7) (lo1 := [some (.ref 1), some (.int (nI p)), some (.int dy), some (.int (nI N)), none, none]) (st1 := [.int (-1)]) (μ1 := μ) (vc := True) rfl (by decide +kernel) rfl trivial ?_
    exact pm_iret (ty := .int) rfl rfl (by decide) (by decide) (by decide +kernel) (⟨by rw [if_neg (by rcases Nat.lt_or_ge N 16 with q | q; exact absurd (nI_lt q (by decide)) h3; omega)], rfl⟩)
/-- how many persons live in house a whose way ends in house b -/
def lr_res (g : Nat → Int32) (a b day : Int32) : Int32 := lr_sum (fun p => lr_b (decide (g (36 + 4 * p) = a) && decide (lr_we g p day = b))) (lr_n g 35)
set_option maxHeartbeats 4000000 in
set_option maxRecDepth 100000 in
theorem l_X5_countResidents {g : Nat → Int32} (ha hb dy : Int32) (μ : pm_Mm) (hR : lr_Rel μ.1 1 g) (hG : lr_G g) : ∀ n k : Nat, ∀ x : Int32, k + n = lr_n g 35 → x = lr_sum (fun p => lr_b (decide (g (36 + 4 * p) = ha) && decide (lr_we g p dy = hb))) k → pm_V mi_X5_countResidents ((fun v μ2 => v = some (.int (lr_res g ha hb dy)) ∧ μ2 = μ), pm_NX, fun _ _ _ => True) 0 0 6 [some (.ref 1), some (.int ha), some (.int hb), some (.int dy), some (.int x), some (.int (nI k))] [] μ := by
  have hm1 := lr_mh hG; have hm2 := lr_mw hG; have hm3 := lr_mp hG; have hm4 := lr_mr hG; have hm5 := lr_ma hG; have hm6 := lr_ml hG
  intro n
  induction n with
  | zero =>
    intro k x hk he
    refine pm_bl [(.iload 5, 2, 5, 0, 0), (.aload_n 0, 1, 0, 0, 0), (.getfield 21, 3, 5, 1, 0), (.getfield 108, 3, 6, 0, 0)] (pc1 := 15) (lo1 := [some (.ref 1), some (.int ha), some (.int hb), some (.int dy), some (.int x), some (.int (nI k))]) (st1 := [.int (μ.1 5 0), .int (nI k)]) (μ1 := μ) (vc := True) rfl (by decide +kernel) rfl trivial ?_
    rw [lr_rNp hR, lr_gp hG]
    refine pm_icmp_ge (off := 37) 52 (by decide +kernel) (by decide) (fun (h15 : (nI (lr_n g 35)) ≤ (nI k)) => ?_) (fun (h9 : ¬ ((nI (lr_n g 35)) ≤ (nI k))) => absurd (nI_le (by omega) (by omega)) h9)
    refine pm_bl [(.iload 4, 2, 4, 0, 0)] (pc1 := 54) (lo1 := [some (.ref 1), some (.int ha), some (.int hb), some (.int dy), some (.int x), some (.int (nI k))]) (st1 := [.int x]) (μ1 := μ) (vc := True) rfl (by decide +kernel) rfl trivial ?_
    exact pm_iret (ty := .int) rfl rfl (by decide) (by decide) (by decide +kernel) (⟨by rw [he, lr_res, ← hk]; rfl, rfl⟩)
  | succ n ih =>
    intro k x hk he
    refine pm_bl [(.iload 5, 2, 5, 0, 0), (.aload_n 0, 1, 0, 0, 0), (.getfield 21, 3, 5, 1, 0), (.getfield 108, 3, 6, 0, 0)] (pc1 := 15) (lo1 := [some (.ref 1), some (.int ha), some (.int hb), some (.int dy), some (.int x), some (.int (nI k))]) (st1 := [.int (μ.1 5 0), .int (nI k)]) (μ1 := μ) (vc := True) rfl (by decide +kernel) rfl trivial ?_
    rw [lr_rNp hR, lr_gp hG]
    refine pm_icmp_ge (off := 37) 52 (by decide +kernel) (by decide) (fun (h9 : (nI (lr_n g 35)) ≤ (nI k)) => absurd h9 (nI_ge (by omega) (by omega))) (fun (h15 : ¬ ((nI (lr_n g 35)) ≤ (nI k))) => ?_)
    refine pm_bl [(.aload_n 0, 1, 0, 0, 0), (.getfield 21, 3, 5, 1, 0), (.getfield 113, 3, 6, 1, 0), (.iload 5, 2, 5, 0, 0), (.iaload, 1, 0, 0, 0), (.iload_n 1, 1, 1, 0, 0)] (pc1 := 29) (lo1 := [some (.ref 1), some (.int ha), some (.int hb), some (.int dy), some (.int x), some (.int (nI k))]) (st1 := [.int ha, .int (μ.1 6 (nI k).toNatClampNeg)]) (μ1 := μ) (vc := vp_in (nI k) 20 ∧ True) rfl (by decide +kernel) rfl ⟨(vp_in_nI (by omega) (by omega)), trivial⟩ ?_
    first | rw [nI_clamp (n := k) (by omega), lr_rpho hR (i := k) (by omega)] | rw [lr_rpho hR (i := k) (by omega)]
    refine pm_icmp_ne (off := 17) 46 (by decide +kernel) (by decide) (fun (h29 : ¬ (g (36 + 4 * k)) = ha) => ?_) (fun (h29 : (g (36 + 4 * k)) = ha) => ?_)
    · refine pm_bl [(.iinc 5 1, 3, 5, 0, 1), (.goto (-43), 3, 6, 0, 0)] (pc1 := 6) (lo1 := [some (.ref 1), some (.int ha), some (.int hb), some (.int dy), some (.int x), some (.int ((nI k) + 1))]) (st1 := []) (μ1 := μ) (vc := True) rfl (by decide +kernel) rfl trivial ?_
      rw [nI_1]; exact ih (k + 1) _ (by omega) (by rw [he]; simp_all [lr_sum, lr_b])
    · refine pm_bl [(.aload_n 0, 1, 0, 0, 0), (.iload 5, 2, 5, 0, 0), (.iload_n 3, 1, 3, 0, 0)] (pc1 := 36) (lo1 := [some (.ref 1), some (.int ha), some (.int hb), some (.int dy), some (.int x), some (.int (nI k))]) (st1 := [.int dy, .int (nI k), .ref 1]) (μ1 := μ) (vc := True) rfl (by decide +kernel) rfl trivial ?_
      refine pm_callV2 mi_X5_endOfWay (ix := 119) (b := 1) (ci := 5) (kc2 := 0) (ks2 := 0) (As := [.int (nI k), .int dy]) (rest := []) (c_X5_endOfWay (p := k) dy μ hR hG (by omega)) cal_X5_endOfWay lk5_119 (by decide +kernel) rfl (by decide +kernel) rfl rfl rfl rfl (Nat.le_of_ble_eq_true rfl) (by decide) (by decide) (fun _ _ h9 => h9.elim) ?_
      rintro _ _ ⟨rfl, h9⟩; rw [h9]; clear h9
      obtain ⟨e36, he36, hf36⟩ := lr_we_ok hG (p := k) (by omega) dy
      rw [he36]
      show pm_V _ _ _ _ 39 _ [.int (nI e36)] _
      refine pm_bl [(.iload_n 2, 1, 2, 0, 0)] (pc1 := 40) (lo1 := [some (.ref 1), some (.int ha), some (.int hb), some (.int dy), some (.int x), some (.int (nI k))]) (st1 := [.int hb, .int (nI e36)]) (μ1 := μ) (vc := True) rfl (by decide +kernel) rfl trivial ?_
      refine pm_icmp_ne (off := 6) 46 (by decide +kernel) (by decide) (fun (h40 : ¬ (nI e36) = hb) => ?_) (fun (h40 : (nI e36) = hb) => ?_)
      · refine pm_bl [(.iinc 5 1, 3, 5, 0, 1), (.goto (-43), 3, 6, 0, 0)] (pc1 := 6) (lo1 := [some (.ref 1), some (.int ha), some (.int hb), some (.int dy), some (.int x), some (.int ((nI k) + 1))]) (st1 := []) (μ1 := μ) (vc := True) rfl (by decide +kernel) rfl trivial ?_
        rw [nI_1]; exact ih (k + 1) _ (by omega) (by rw [he]; simp_all [lr_sum, lr_b])
      · refine pm_bl [(.iinc 4 1, 3, 4, 0, 1), (.iinc 5 1, 3, 5, 0, 1), (.goto (-43), 3, 6, 0, 0)] (pc1 := 6) (lo1 := [some (.ref 1), some (.int ha), some (.int hb), some (.int dy), some (.int (x + 1)), some (.int ((nI k) + 1))]) (st1 := []) (μ1 := μ) (vc := True) rfl (by decide +kernel) rfl trivial ?_
        rw [nI_1]; exact ih (k + 1) _ (by omega) (by rw [he]; simp_all [lr_sum, lr_b])
set_option maxHeartbeats 4000000 in
set_option maxRecDepth 100000 in
theorem c_X5_countResidents {g : Nat → Int32} (ha hb dy : Int32) (μ : pm_Mm) (hR : lr_Rel μ.1 1 g) (hG : lr_G g) : pm_CT mi_X5_countResidents [.ref 1, .int ha, .int hb, .int dy] μ (fun v μ2 => v = some (.int (lr_res g ha hb dy)) ∧ μ2 = μ) pm_NX := by
  refine pm_CT_of (lo := [some (.ref 1), some (.int ha), some (.int hb), some (.int dy), none, none]) (by decide +kernel) rfl rfl (by intro v hv; simp at hv; rcases hv with rfl | rfl | rfl | rfl <;> rfl) (Nat.le_of_ble_eq_true rfl) rfl ?_
  refine pm_bl [(.iconst 0, 1, 0, 0, 0), (.istore 4, 2, 4, 0, 0), (.iconst 0, 1, 0, 0, 0), (.istore 5, 2, 5, 0, 0)] (pc1 := 6) (lo1 := [some (.ref 1), some (.int ha), some (.int hb), some (.int dy), some (.int 0), some (.int 0)]) (st1 := []) (μ1 := μ) (vc := True) rfl (by decide +kernel) rfl trivial ?_
  exact l_X5_countResidents ha hb dy μ hR hG (lr_n g 35) 0 0 (Nat.zero_add _) rfl
set_option maxHeartbeats 4000000 in
set_option maxRecDepth 100000 in
theorem l_X0_isAbsent {g : Nat → Int32} (pe dy : Int32) (μ : pm_Mm) (hR : lr_Rel μ.1 1 g) (hG : lr_G g) : ∀ n k : Nat, k + n = lr_n g 228 → lr_abs g pe dy = lr_any (fun a => decide (g (229 + 3 * a) = pe) && lr_in dy (g (230 + 3 * a)) (g (231 + 3 * a))) n k → pm_V mi_X0_isAbsent ((fun v μ2 => v = some (.int (lr_b (lr_abs g pe dy))) ∧ μ2 = μ), pm_NX, fun _ _ _ => True) 0 0 2 [some (.ref 22), some (.int pe), some (.int dy), some (.int (nI k))] [] μ := by
  have hm1 := lr_mh hG; have hm2 := lr_mw hG; have hm3 := lr_mp hG; have hm4 := lr_mr hG; have hm5 := lr_ma hG; have hm6 := lr_ml hG
  intro n
  induction n with
  | zero =>
    intro k hk he
    refine pm_bl [(.iload_n 3, 1, 3, 0, 0), (.aload_n 0, 1, 0, 0, 0), (.getfield 9, 3, 0, 0, 0)] (pc1 := 7) (lo1 := [some (.ref 22), some (.int pe), some (.int dy), some (.int (nI k))]) (st1 := [.int (μ.1 22 0), .int (nI k)]) (μ1 := μ) (vc := True) rfl (by decide +kernel) rfl trivial ?_
    rw [lr_rNa hR, lr_ga hG]
    refine pm_icmp_ge (off := 40) 47 (by decide +kernel) (by decide) (fun (h7 : (nI (lr_n g 228)) ≤ (nI k)) => ?_) (fun (h9 : ¬ ((nI (lr_n g 228)) ≤ (nI k))) => absurd (nI_le (by omega) (by omega)) h9)
    refine pm_bl [(.iconst 0, 1, 0, 0, 0)] (pc1 := 48) (lo1 := [some (.ref 22), some (.int pe), some (.int dy), some (.int (nI k))]) (st1 := [.int 0]) (μ1 := μ) (vc := True) rfl (by decide +kernel) rfl trivial ?_
    exact pm_iret (ty := .boolean) rfl (rfl) (by decide) (by decide) (by decide +kernel) (⟨by rw [he]; rfl, rfl⟩)
  | succ n ih =>
    intro k hk he
    refine pm_bl [(.iload_n 3, 1, 3, 0, 0), (.aload_n 0, 1, 0, 0, 0), (.getfield 9, 3, 0, 0, 0)] (pc1 := 7) (lo1 := [some (.ref 22), some (.int pe), some (.int dy), some (.int (nI k))]) (st1 := [.int (μ.1 22 0), .int (nI k)]) (μ1 := μ) (vc := True) rfl (by decide +kernel) rfl trivial ?_
    rw [lr_rNa hR, lr_ga hG]
    refine pm_icmp_ge (off := 40) 47 (by decide +kernel) (by decide) (fun (h9 : (nI (lr_n g 228)) ≤ (nI k)) => absurd h9 (nI_ge (by omega) (by omega))) (fun (h7 : ¬ ((nI (lr_n g 228)) ≤ (nI k))) => ?_)
    refine pm_bl [(.aload_n 0, 1, 0, 0, 0), (.getfield 15, 3, 0, 1, 0), (.iload_n 3, 1, 3, 0, 0), (.iaload, 1, 0, 0, 0), (.iload_n 1, 1, 1, 0, 0)] (pc1 := 17) (lo1 := [some (.ref 22), some (.int pe), some (.int dy), some (.int (nI k))]) (st1 := [.int pe, .int (μ.1 23 (nI k).toNatClampNeg)]) (μ1 := μ) (vc := vp_in (nI k) 20 ∧ True) rfl (by decide +kernel) rfl ⟨(vp_in_nI (by omega) (by omega)), trivial⟩ ?_
    first | rw [nI_clamp (n := k) (by omega), lr_rape hR (i := k) (by omega)] | rw [lr_rape hR (i := k) (by omega)]
    refine pm_icmp_ne (off := 24) 41 (by decide +kernel) (by decide) (fun (h17 : ¬ (g (229 + 3 * k)) = pe) => ?_) (fun (h17 : (g (229 + 3 * k)) = pe) => ?_)
    · refine pm_bl [(.iinc 3 1, 3, 3, 0, 1), (.goto (-42), 3, 2, 0, 0)] (pc1 := 2) (lo1 := [some (.ref 22), some (.int pe), some (.int dy), some (.int ((nI k) + 1))]) (st1 := []) (μ1 := μ) (vc := True) rfl (by decide +kernel) rfl trivial ?_
      rw [nI_1]; exact ih (k + 1) (by omega) (by rw [he]; simp only [lr_any]; rw [if_neg (by simp_all)])
    · refine pm_bl [(.iload_n 2, 1, 2, 0, 0), (.aload_n 0, 1, 0, 0, 0), (.getfield 19, 3, 0, 2, 0), (.iload_n 3, 1, 3, 0, 0), (.iaload, 1, 0, 0, 0), (.aload_n 0, 1, 0, 0, 0), (.getfield 22, 3, 0, 3, 0), (.iload_n 3, 1, 3, 0, 0), (.iaload, 1, 0, 0, 0)] (pc1 := 33) (lo1 := [some (.ref 22), some (.int pe), some (.int dy), some (.int (nI k))]) (st1 := [.int (μ.1 25 (nI k).toNatClampNeg), .int (μ.1 24 (nI k).toNatClampNeg), .int dy]) (μ1 := μ) (vc := vp_in (nI k) 20 ∧ vp_in (nI k) 20 ∧ True) rfl (by decide +kernel) rfl ⟨(vp_in_nI (by omega) (by omega)), (vp_in_nI (by omega) (by omega)), trivial⟩ ?_
      first | rw [nI_clamp (n := k) (by omega), lr_rafi hR (i := k) (by omega)] | rw [lr_rafi hR (i := k) (by omega)]
      first | rw [nI_clamp (n := k) (by omega), lr_rala hR (i := k) (by omega)] | rw [lr_rala hR (i := k) (by omega)]
      refine pm_callSN2 mi_X9_isBetween (ix := 36) (host := RX9) (kc2 := 0) (ks2 := 0) (As := [.int dy, .int (g (230 + 3 * k)), .int (g (231 + 3 * k))]) (rest := []) (c_X9_isBetween dy (g (230 + 3 * k)) (g (231 + 3 * k)) μ) cal_X9_isBetween (by decide +kernel) (by decide +kernel) (by decide +kernel) rfl rfl (Nat.le_of_ble_eq_true rfl) (by decide) (by decide) ?_
      rintro _ _ ⟨rfl, h9⟩; rw [h9]; clear h9
      show pm_V _ _ _ _ 36 _ [.int (lr_b (lr_in dy (g (230 + 3 * k)) (g (231 + 3 * k))))] _
      refine pm_ifb_eq (off := 5) 41 (by decide +kernel) (by decide) (fun (h36 : (lr_in dy (g (230 + 3 * k)) (g (231 + 3 * k))) = false) => ?_) (fun (h36 : (lr_in dy (g (230 + 3 * k)) (g (231 + 3 * k))) = true) => ?_)
      · refine pm_bl [(.iinc 3 1, 3, 3, 0, 1), (.goto (-42), 3, 2, 0, 0)] (pc1 := 2) (lo1 := [some (.ref 22), some (.int pe), some (.int dy), some (.int ((nI k) + 1))]) (st1 := []) (μ1 := μ) (vc := True) rfl (by decide +kernel) rfl trivial ?_
        rw [nI_1]; exact ih (k + 1) (by omega) (by rw [he]; simp only [lr_any]; rw [if_neg (by simp_all)])
      · refine pm_bl [(.iconst 1, 1, 0, 0, 1)] (pc1 := 40) (lo1 := [some (.ref 22), some (.int pe), some (.int dy), some (.int (nI k))]) (st1 := [.int 1]) (μ1 := μ) (vc := True) rfl (by decide +kernel) rfl trivial ?_
        exact pm_iret (ty := .boolean) rfl (rfl) (by decide) (by decide) (by decide +kernel) (⟨by rw [he]; simp only [lr_any]; rw [if_pos (by simp_all)]; rfl, rfl⟩)
set_option maxHeartbeats 4000000 in
set_option maxRecDepth 100000 in
theorem c_X0_isAbsent {g : Nat → Int32} (pe dy : Int32) (μ : pm_Mm) (hR : lr_Rel μ.1 1 g) (hG : lr_G g) : pm_CT mi_X0_isAbsent [.ref 22, .int pe, .int dy] μ (fun v μ2 => v = some (.int (lr_b (lr_abs g pe dy))) ∧ μ2 = μ) pm_NX := by
  refine pm_CT_of (lo := [some (.ref 22), some (.int pe), some (.int dy), none]) (by decide +kernel) rfl rfl (by intro v hv; simp at hv; rcases hv with rfl | rfl | rfl <;> rfl) (Nat.le_of_ble_eq_true rfl) rfl ?_
  refine pm_bl [(.iconst 0, 1, 0, 0, 0), (.istore_n 3, 1, 3, 0, 0)] (pc1 := 2) (lo1 := [some (.ref 22), some (.int pe), some (.int dy), some (.int 0)]) (st1 := []) (μ1 := μ) (vc := True) rfl (by decide +kernel) rfl trivial ?_
  exact l_X0_isAbsent pe dy μ hR hG (lr_n g 228) 0 (Nat.zero_add _) rfl
set_option maxHeartbeats 4000000 in
set_option maxRecDepth 100000 in
theorem c_X6_hasAllowed {g : Nat → Int32} {p : Nat} (q : Int32) (μ : pm_Mm) (hR : lr_Rel μ.1 1 g) (hG : lr_G g) (hp : p < lr_n g 35) : pm_CT mi_X6_hasAllowed [.ref 5, .int (nI p), .int q] μ (fun v μ2 => v = some (.int (lr_b (lr_al g p q))) ∧ μ2 = μ) pm_NX := by
  refine pm_CT_of (lo := [some (.ref 5), some (.int (nI p)), some (.int q)]) (by decide +kernel) rfl rfl (by intro v hv; simp at hv; rcases hv with rfl | rfl | rfl <;> rfl) (Nat.le_of_ble_eq_true rfl) rfl ?_
  have hm1 := lr_mh hG; have hm2 := lr_mw hG; have hm3 := lr_mp hG; have hm4 := lr_mr hG; have hm5 := lr_ma hG; have hm6 := lr_ml hG
  have hbe : lr_be (nI p) (nI (lr_n g 35)) = true := by rw [lr_be_nI (by omega) (by omega)]; exact decide_eq_true hp
  refine pm_bl [(.iload_n 1, 1, 1, 0, 0), (.aload_n 0, 1, 0, 0, 0), (.getfield 9, 3, 6, 0, 0)] (pc1 := 5) (lo1 := [some (.ref 5), some (.int (nI p)), some (.int q)]) (st1 := [.int (μ.1 5 0), .int (nI p)]) (μ1 := μ) (vc := True) rfl (by decide +kernel) rfl trivial ?_
  rw [lr_rNp hR, lr_gp hG]
  refine pm_callSN2 mi_X9_isBelow (ix := 32) (host := RX9) (kc2 := 0) (ks2 := 0) (As := [.int (nI p), .int (nI (lr_n g 35))]) (rest := []) (c_X9_isBelow (nI p) (nI (lr_n g 35)) μ) cal_X9_isBelow (by decide +kernel) (by decide +kernel) (by decide +kernel) rfl rfl (Nat.le_of_ble_eq_true rfl) (by decide) (by decide) ?_
  rintro _ _ ⟨rfl, h9⟩; rw [h9]; clear h9
  rw [hbe]
  show pm_V _ _ _ _ 8 _ [.int 1] _
  refine pm_if_eq (off := 20) 28 (by decide +kernel) (by decide) (fun h9 => absurd h9 (by decide)) (fun _ => ?_)
  refine pm_bl [(.aload_n 0, 1, 0, 0, 0), (.getfield 25, 3, 6, 4, 0), (.iload_n 1, 1, 1, 0, 0), (.iaload, 1, 0, 0, 0), (.iconst 1, 1, 0, 0, 1), (.iload_n 2, 1, 2, 0, 0), (.ishl, 1, 0, 0, 0), (.iand, 1, 0, 0, 0)] (pc1 := 21) (lo1 := [some (.ref 5), some (.int (nI p)), some (.int q)]) (st1 := [.int ((μ.1 9 (nI p).toNatClampNeg) &&& (1 <<< (q &&& 31)))]) (μ1 := μ) (vc := vp_in (nI p) 20 ∧ True) rfl (by decide +kernel) rfl ⟨(vp_in_nI (by omega) (by omega)), trivial⟩ ?_
  first | rw [nI_clamp (n := p) (by omega), lr_rpal hR (i := p) hp] | rw [lr_rpal hR (i := p) hp]
  refine pm_if_eq (off := 7) 28 (by decide +kernel) (by decide) (fun (h21 : ((g (39 + 4 * p)) &&& (1 <<< (q &&& 31))) = 0) => ?_) (fun (h21 : ¬ (((g (39 + 4 * p)) &&& (1 <<< (q &&& 31))) = 0)) => ?_)
  · refine pm_bl [(.iconst 0, 1, 0, 0, 0)] (pc1 := 29) (lo1 := [some (.ref 5), some (.int (nI p)), some (.int q)]) (st1 := [.int 0]) (μ1 := μ) (vc := True) rfl (by decide +kernel) rfl trivial ?_
    exact pm_iret (ty := .boolean) rfl (rfl) (by decide) (by decide) (by decide +kernel) (⟨by clear hbe; congr 2; simp_all [lr_al, lr_b], rfl⟩)
  · refine pm_bl [(.iconst 1, 1, 0, 0, 1), (.goto 4, 3, 29, 0, 0)] (pc1 := 29) (lo1 := [some (.ref 5), some (.int (nI p)), some (.int q)]) (st1 := [.int 1]) (μ1 := μ) (vc := True) rfl (by decide +kernel) rfl trivial ?_
    exact pm_iret (ty := .boolean) rfl (rfl) (by decide) (by decide) (by decide +kernel) (⟨by clear hbe; congr 2; simp_all [lr_al, lr_b], rfl⟩)
set_option maxHeartbeats 4000000 in
set_option maxRecDepth 100000 in
theorem l_X5_whoSigns {g : Nat → Int32} (p : Nat) (hp : p < lr_n g 35) (e : Nat) (dy : Int32) (μ : pm_Mm) (hR : lr_Rel μ.1 1 g) (hG : lr_G g) : ∀ n k : Nat, k + n = lr_n g 35 → lr_fst (lr_sgc g p (nI e) dy) (lr_n g 35) 0 = lr_fst (lr_sgc g p (nI e) dy) n k → pm_V mi_X5_whoSigns ((fun v μ2 => v = some (.int (lr_fst (lr_sgc g p (nI e) dy) (lr_n g 35) 0)) ∧ μ2 = μ), pm_NX, fun _ _ _ => True) 0 0 24 [some (.ref 1), some (.int (nI p)), some (.int dy), some (.int (nI e)), some (.int (nI k))] [] μ := by
  have hm1 := lr_mh hG; have hm2 := lr_mw hG; have hm3 := lr_mp hG; have hm4 := lr_mr hG; have hm5 := lr_ma hG; have hm6 := lr_ml hG
  intro n
  induction n with
  | zero =>
    intro k hk he
    refine pm_bl [(.iload 4, 2, 4, 0, 0), (.aload_n 0, 1, 0, 0, 0), (.getfield 21, 3, 5, 1, 0), (.getfield 108, 3, 6, 0, 0)] (pc1 := 33) (lo1 := [some (.ref 1), some (.int (nI p)), some (.int dy), some (.int (nI e)), some (.int (nI k))]) (st1 := [.int (μ.1 5 0), .int (nI k)]) (μ1 := μ) (vc := True) rfl (by decide +kernel) rfl trivial ?_
    rw [lr_rNp hR, lr_gp hG]
    refine pm_icmp_ge (off := 52) 85 (by decide +kernel) (by decide) (fun (h33 : (nI (lr_n g 35)) ≤ (nI k)) => ?_) (fun (h9 : ¬ ((nI (lr_n g 35)) ≤ (nI k))) => absurd (nI_le (by omega) (by omega)) h9)
    refine pm_bl [(.iconst (-1), 1, 0, 0, (-1))] (pc1 := 86) (lo1 := [some (.ref 1), some (.int (nI p)), some (.int dy), some (.int (nI e)), some (.int (nI k))]) (st1 := [.int (-1)]) (μ1 := μ) (vc := True) rfl (by decide +kernel) rfl trivial ?_
    exact pm_iret (ty := .int) rfl rfl (by decide) (by decide) (by decide +kernel) (⟨by rw [he]; rfl, rfl⟩)
  | succ n ih =>
    intro k hk he
    refine pm_bl [(.iload 4, 2, 4, 0, 0), (.aload_n 0, 1, 0, 0, 0), (.getfield 21, 3, 5, 1, 0), (.getfield 108, 3, 6, 0, 0)] (pc1 := 33) (lo1 := [some (.ref 1), some (.int (nI p)), some (.int dy), some (.int (nI e)), some (.int (nI k))]) (st1 := [.int (μ.1 5 0), .int (nI k)]) (μ1 := μ) (vc := True) rfl (by decide +kernel) rfl trivial ?_
    rw [lr_rNp hR, lr_gp hG]
    refine pm_icmp_ge (off := 52) 85 (by decide +kernel) (by decide) (fun (h9 : (nI (lr_n g 35)) ≤ (nI k)) => absurd h9 (nI_ge (by omega) (by omega))) (fun (h33 : ¬ ((nI (lr_n g 35)) ≤ (nI k))) => ?_)
    refine pm_bl [(.aload_n 0, 1, 0, 0, 0), (.getfield 21, 3, 5, 1, 0), (.iload_n 1, 1, 1, 0, 0), (.iload 4, 2, 4, 0, 0)] (pc1 := 43) (lo1 := [some (.ref 1), some (.int (nI p)), some (.int dy), some (.int (nI e)), some (.int (nI k))]) (st1 := [.int (nI k), .int (nI p), .ref 5]) (μ1 := μ) (vc := True) rfl (by decide +kernel) rfl trivial ?_
    refine pm_callV2 mi_X6_hasAllowed (ix := 125) (b := 5) (ci := 6) (kc2 := 0) (ks2 := 0) (As := [.int (nI p), .int (nI k)]) (rest := []) (c_X6_hasAllowed (p := p) (nI k) μ hR hG (by omega)) cal_X6_hasAllowed lk5_125 (by decide +kernel) rfl (by decide +kernel) rfl rfl rfl rfl (Nat.le_of_ble_eq_true rfl) (by decide) (by decide) (fun _ _ h9 => h9.elim) ?_
    rintro _ _ ⟨rfl, h9⟩; rw [h9]; clear h9
    show pm_V _ _ _ _ 46 _ [.int (lr_b (lr_al g p (nI k)))] _
    refine pm_ifb_eq (off := 33) 79 (by decide +kernel) (by decide) (fun (h46 : (lr_al g p (nI k)) = false) => ?_) (fun (h46 : (lr_al g p (nI k)) = true) => ?_)
    · refine pm_bl [(.iinc 4 1, 3, 4, 0, 1), (.goto (-58), 3, 24, 0, 0)] (pc1 := 24) (lo1 := [some (.ref 1), some (.int (nI p)), some (.int dy), some (.int (nI e)), some (.int ((nI k) + 1))]) (st1 := []) (μ1 := μ) (vc := True) rfl (by decide +kernel) rfl trivial ?_
      rw [nI_1]; exact ih (k + 1) (by omega) (by rw [he]; simp only [lr_fst]; rw [if_neg (by simp_all [lr_sgc])])
    · refine pm_bl [(.aload_n 0, 1, 0, 0, 0), (.getfield 21, 3, 5, 1, 0), (.getfield 113, 3, 6, 1, 0), (.iload 4, 2, 4, 0, 0), (.iaload, 1, 0, 0, 0), (.iload_n 3, 1, 3, 0, 0)] (pc1 := 60) (lo1 := [some (.ref 1), some (.int (nI p)), some (.int dy), some (.int (nI e)), some (.int (nI k))]) (st1 := [.int (nI e), .int (μ.1 6 (nI k).toNatClampNeg)]) (μ1 := μ) (vc := vp_in (nI k) 20 ∧ True) rfl (by decide +kernel) rfl ⟨(vp_in_nI (by omega) (by omega)), trivial⟩ ?_
      first | rw [nI_clamp (n := k) (by omega), lr_rpho hR (i := k) (by omega)] | rw [lr_rpho hR (i := k) (by omega)]
      refine pm_icmp_ne (off := 19) 79 (by decide +kernel) (by decide) (fun (h60 : ¬ (g (36 + 4 * k)) = (nI e)) => ?_) (fun (h60 : (g (36 + 4 * k)) = (nI e)) => ?_)
      · refine pm_bl [(.iinc 4 1, 3, 4, 0, 1), (.goto (-58), 3, 24, 0, 0)] (pc1 := 24) (lo1 := [some (.ref 1), some (.int (nI p)), some (.int dy), some (.int (nI e)), some (.int ((nI k) + 1))]) (st1 := []) (μ1 := μ) (vc := True) rfl (by decide +kernel) rfl trivial ?_
        rw [nI_1]; exact ih (k + 1) (by omega) (by rw [he]; simp only [lr_fst]; rw [if_neg (by simp_all [lr_sgc])])
      · refine pm_bl [(.aload_n 0, 1, 0, 0, 0), (.getfield 42, 3, 5, 4, 0), (.iload 4, 2, 4, 0, 0), (.iload_n 2, 1, 2, 0, 0)] (pc1 := 70) (lo1 := [some (.ref 1), some (.int (nI p)), some (.int dy), some (.int (nI e)), some (.int (nI k))]) (st1 := [.int dy, .int (nI k), .ref 22]) (μ1 := μ) (vc := True) rfl (by decide +kernel) rfl trivial ?_
        refine pm_callV2 mi_X0_isAbsent (ix := 122) (b := 22) (ci := 0) (kc2 := 0) (ks2 := 0) (As := [.int (nI k), .int dy]) (rest := []) (c_X0_isAbsent (nI k) dy μ hR hG) cal_X0_isAbsent lk5_122 (by decide +kernel) rfl (by decide +kernel) rfl rfl rfl rfl (Nat.le_of_ble_eq_true rfl) (by decide) (by decide) (fun _ _ h9 => h9.elim) ?_
        rintro _ _ ⟨rfl, h9⟩; rw [h9]; clear h9
        show pm_V _ _ _ _ 73 _ [.int (lr_b (lr_abs g (nI k) dy))] _
        refine pm_ifb_ne (off := 6) 79 (by decide +kernel) (by decide) (fun (h73 : (lr_abs g (nI k) dy) = true) => ?_) (fun (h73 : (lr_abs g (nI k) dy) = false) => ?_)
        · refine pm_bl [(.iinc 4 1, 3, 4, 0, 1), (.goto (-58), 3, 24, 0, 0)] (pc1 := 24) (lo1 := [some (.ref 1), some (.int (nI p)), some (.int dy), some (.int (nI e)), some (.int ((nI k) + 1))]) (st1 := []) (μ1 := μ) (vc := True) rfl (by decide +kernel) rfl trivial ?_
          rw [nI_1]; exact ih (k + 1) (by omega) (by rw [he]; simp only [lr_fst]; rw [if_neg (by simp_all [lr_sgc])])
        · refine pm_bl [(.iload 4, 2, 4, 0, 0)] (pc1 := 78) (lo1 := [some (.ref 1), some (.int (nI p)), some (.int dy), some (.int (nI e)), some (.int (nI k))]) (st1 := [.int (nI k)]) (μ1 := μ) (vc := True) rfl (by decide +kernel) rfl trivial ?_
          exact pm_iret (ty := .int) rfl rfl (by decide) (by decide) (by decide +kernel) (⟨by rw [he]; simp only [lr_fst]; rw [if_pos (by simp_all [lr_sgc])], rfl⟩)
set_option maxHeartbeats 4000000 in
set_option maxRecDepth 100000 in
theorem c_X5_whoSigns {g : Nat → Int32} {p : Nat} (dy : Int32) (μ : pm_Mm) (hR : lr_Rel μ.1 1 g) (hG : lr_G g) (hp : p < lr_n g 35) : pm_CT mi_X5_whoSigns [.ref 1, .int (nI p), .int dy] μ (fun v μ2 => v = some (.int (lr_sg g p dy)) ∧ μ2 = μ) pm_NX := by
  refine pm_CT_of (lo := [some (.ref 1), some (.int (nI p)), some (.int dy), none, none]) (by decide +kernel) rfl rfl (by intro v hv; simp at hv; rcases hv with rfl | rfl | rfl <;> rfl) (Nat.le_of_ble_eq_true rfl) rfl ?_
  have hm1 := lr_mh hG; have hm2 := lr_mw hG; have hm3 := lr_mp hG; have hm4 := lr_mr hG; have hm5 := lr_ma hG; have hm6 := lr_ml hG
  refine pm_bl [(.aload_n 0, 1, 0, 0, 0), (.getfield 42, 3, 5, 4, 0), (.iload_n 1, 1, 1, 0, 0), (.iload_n 2, 1, 2, 0, 0)] (pc1 := 6) (lo1 := [some (.ref 1), some (.int (nI p)), some (.int dy), none, none]) (st1 := [.int dy, .int (nI p), .ref 22]) (μ1 := μ) (vc := True) rfl (by decide +kernel) rfl trivial ?_
  refine pm_callV2 mi_X0_isAbsent (ix := 122) (b := 22) (ci := 0) (kc2 := 0) (ks2 := 0) (As := [.int (nI p), .int dy]) (rest := []) (c_X0_isAbsent (nI p) dy μ hR hG) cal_X0_isAbsent lk5_122 (by decide +kernel) rfl (by decide +kernel) rfl rfl rfl rfl (Nat.le_of_ble_eq_true rfl) (by decide) (by decide) (fun _ _ h9 => h9.elim) ?_
  rintro _ _ ⟨rfl, h9⟩; rw [h9]; clear h9
  show pm_V _ _ _ _ 9 _ [.int (lr_b (lr_abs g (nI p) dy))] _
  refine pm_ifb_ne (off := 5) 14 (by decide +kernel) (by decide) (fun (h9 : (lr_abs g (nI p) dy) = true) => ?_) (fun (h9 : (lr_abs g (nI p) dy) = false) => ?_)
  · refine pm_bl [(.aload_n 0, 1, 0, 0, 0), (.iload_n 1, 1, 1, 0, 0), (.iload_n 2, 1, 2, 0, 0)] (pc1 := 17) (lo1 := [some (.ref 1), some (.int (nI p)), some (.int dy), none, none]) (st1 := [.int dy, .int (nI p), .ref 1]) (μ1 := μ) (vc := True) rfl (by decide +kernel) rfl trivial ?_
    refine pm_callV2 mi_X5_endOfWay (ix := 119) (b := 1) (ci := 5) (kc2 := 0) (ks2 := 0) (As := [.int (nI p), .int dy]) (rest := []) (c_X5_endOfWay (p := p) dy μ hR hG (by omega)) cal_X5_endOfWay lk5_119 (by decide +kernel) rfl (by decide +kernel) rfl rfl rfl rfl (Nat.le_of_ble_eq_true rfl) (by decide) (by decide) (fun _ _ h9 => h9.elim) ?_
    rintro _ _ ⟨rfl, h9⟩; rw [h9]; clear h9
    obtain ⟨e17, he17, hf17⟩ := lr_we_ok hG (p := p) (by omega) dy
    rw [he17]
    show pm_V _ _ _ _ 20 _ [.int (nI e17)] _
    refine pm_bl [(.istore_n 3, 1, 3, 0, 0), (.iconst 0, 1, 0, 0, 0), (.istore 4, 2, 4, 0, 0)] (pc1 := 24) (lo1 := [some (.ref 1), some (.int (nI p)), some (.int dy), some (.int (nI e17)), some (.int 0)]) (st1 := []) (μ1 := μ) (vc := True) rfl (by decide +kernel) rfl trivial ?_
    rw [lr_sg, if_neg (by simp_all), he17]
    exact l_X5_whoSigns p hp e17 dy μ hR hG (lr_n g 35) 0 (Nat.zero_add _) rfl
  · refine pm_bl [(.iload_n 1, 1, 1, 0, 0)] (pc1 := 13) (lo1 := [some (.ref 1), some (.int (nI p)), some (.int dy), none, none]) (st1 := [.int (nI p)]) (μ1 := μ) (vc := True) rfl (by decide +kernel) rfl trivial ?_
    exact pm_iret (ty := .int) rfl rfl (by decide) (by decide) (by decide +kernel) (⟨by rw [lr_sg, if_pos h9], rfl⟩)
