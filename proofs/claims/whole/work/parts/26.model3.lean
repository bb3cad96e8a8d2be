/-! the model: signers, rounds, sums -/
set_option maxHeartbeats 4000000 in
set_option maxRecDepth 100000 in
theorem l_X10_signs {g : Nat → Int32} (p : Nat) (hp : p < lr_n g 35) (e : Nat) (dy : Int32) (μ : pm_Mm) (hM : μ.1 48 = g) (hG : lr_G g) : ∀ n k : Nat, k + n = lr_n g 35 → lr_fst (lr_sgc g p (nI e) dy) (lr_n g 35) 0 = lr_fst (lr_sgc g p (nI e) dy) n k → pm_V mi_X10_signs ((fun v μ2 => v = some (.int (lr_fst (lr_sgc g p (nI e) dy) (lr_n g 35) 0)) ∧ μ2 = μ), pm_NX, fun _ _ _ => True) 0 0 21 [some (.ref 47), some (.int (nI p)), some (.int dy), some (.int (nI e)), some (.int (nI k))] [] μ := by
  have hm1 := lr_mh hG; have hm2 := lr_mw hG; have hm3 := lr_mp hG; have hm4 := lr_mr hG; have hm5 := lr_ma hG; have hm6 := lr_ml hG
  intro n
  induction n with
  | zero =>
    intro k hk he
    refine pm_bl [(.iload 4, 2, 4, 0, 0), (.aload_n 0, 1, 0, 0, 0), (.getfield 7, 3, 10, 0, 0), (.bipush 35, 2, 0, 0, 35), (.iaload, 1, 0, 0, 0)] (pc1 := 30) (lo1 := [some (.ref 47), some (.int (nI p)), some (.int dy), some (.int (nI e)), some (.int (nI k))]) (st1 := [.int (μ.1 48 (35 : Int32).toNatClampNeg), .int (nI k)]) (μ1 := μ) (vc := vp_in 35 620 ∧ True) rfl (by decide +kernel) rfl ⟨(by unfold vp_in; decide), trivial⟩ ?_
    rw [show (35 : Int32).toNatClampNeg = 35 from by decide, hM, lr_gp hG]
    refine pm_icmp_ge (off := 54) 84 (by decide +kernel) (by decide) (fun (h30 : (nI (lr_n g 35)) ≤ (nI k)) => ?_) (fun (h9 : ¬ ((nI (lr_n g 35)) ≤ (nI k))) => absurd (nI_le (by omega) (by omega)) h9)
    refine pm_bl [(.iconst (-1), 1, 0, 0, (-1))] (pc1 := 85) (lo1 := [some (.ref 47), some (.int (nI p)), some (.int dy), some (.int (nI e)), some (.int (nI k))]) (st1 := [.int (-1)]) (μ1 := μ) (vc := True) rfl (by decide +kernel) rfl trivial ?_
    exact pm_iret (ty := .int) rfl rfl (by decide) (by decide) (by decide +kernel) (⟨by rw [he]; rfl, rfl⟩)
  | succ n ih =>
    intro k hk he
    have hbit : ((g (39 + 4 * p) >>> (nI k &&& 31)) &&& 1 = 1) ↔ lr_al g p (nI k) = true := by rw [lr_al_bit g p (by omega)]; exact lr_bit1 _ (by omega)
    refine pm_bl [(.iload 4, 2, 4, 0, 0), (.aload_n 0, 1, 0, 0, 0), (.getfield 7, 3, 10, 0, 0), (.bipush 35, 2, 0, 0, 35), (.iaload, 1, 0, 0, 0)] (pc1 := 30) (lo1 := [some (.ref 47), some (.int (nI p)), some (.int dy), some (.int (nI e)), some (.int (nI k))]) (st1 := [.int (μ.1 48 (35 : Int32).toNatClampNeg), .int (nI k)]) (μ1 := μ) (vc := vp_in 35 620 ∧ True) rfl (by decide +kernel) rfl ⟨(by unfold vp_in; decide), trivial⟩ ?_
    rw [show (35 : Int32).toNatClampNeg = 35 from by decide, hM, lr_gp hG]
    refine pm_icmp_ge (off := 54) 84 (by decide +kernel) (by decide) (fun (h9 : (nI (lr_n g 35)) ≤ (nI k)) => absurd h9 (nI_ge (by omega) (by omega))) (fun (h30 : ¬ ((nI (lr_n g 35)) ≤ (nI k))) => ?_)
    refine pm_bl [(.aload_n 0, 1, 0, 0, 0), (.getfield 7, 3, 10, 0, 0), (.bipush 36, 2, 0, 0, 36), (.iconst 4, 1, 0, 0, 4), (.iload_n 1, 1, 1, 0, 0), (.imul, 1, 0, 0, 0), (.iadd, 1, 0, 0, 0), (.iconst 3, 1, 0, 0, 3), (.iadd, 1, 0, 0, 0)] (pc1 := 45) (lo1 := [some (.ref 47), some (.int (nI p)), some (.int dy), some (.int (nI e)), some (.int (nI k))]) (st1 := [.int ((36 + (4 * (nI p))) + 3), .ref 48]) (μ1 := μ) (vc := True) rfl (by decide +kernel) rfl trivial ?_
    rw [(show ((36 + (4 * (nI p))) + 3 : Int32) = nI ((36 + (4 * (p))) + 3) from by simp only [nI, Int32.ofNat_add, Int32.ofNat_mul]; rfl).trans (congrArg nI (show (36 + (4 * (p))) + 3 = 39 + 4 * p from by omega))]
    refine pm_bl [(.iaload, 1, 0, 0, 0)] (pc1 := 46) (lo1 := [some (.ref 47), some (.int (nI p)), some (.int dy), some (.int (nI e)), some (.int (nI k))]) (st1 := [.int (μ.1 48 (nI (39 + 4 * p)).toNatClampNeg)]) (μ1 := μ) (vc := vp_in (nI (39 + 4 * p)) 620 ∧ True) rfl (by decide +kernel) rfl ⟨(vp_in_nI (by omega) (by omega)), trivial⟩ ?_
    first | rw [nI_clamp (n := 39 + 4 * p) (by omega), hM] | rw [hM]
    refine pm_bl [(.iload 4, 2, 4, 0, 0), (.ishr, 1, 0, 0, 0), (.iconst 1, 1, 0, 0, 1), (.iand, 1, 0, 0, 0), (.iconst 1, 1, 0, 0, 1)] (pc1 := 52) (lo1 := [some (.ref 47), some (.int (nI p)), some (.int dy), some (.int (nI e)), some (.int (nI k))]) (st1 := [.int 1, .int (((g (39 + 4 * p)) >>> ((nI k) &&& 31)) &&& 1)]) (μ1 := μ) (vc := True) rfl (by decide +kernel) rfl trivial ?_
    refine pm_icmp_ne (off := 26) 78 (by decide +kernel) (by decide) (fun (h52 : ¬ (((g (39 + 4 * p)) >>> ((nI k) &&& 31)) &&& 1) = 1) => ?_) (fun (h52 : (((g (39 + 4 * p)) >>> ((nI k) &&& 31)) &&& 1) = 1) => ?_)
    · refine pm_bl [(.iinc 4 1, 3, 4, 0, 1), (.goto (-60), 3, 21, 0, 0)] (pc1 := 21) (lo1 := [some (.ref 47), some (.int (nI p)), some (.int dy), some (.int (nI e)), some (.int ((nI k) + 1))]) (st1 := []) (μ1 := μ) (vc := True) rfl (by decide +kernel) rfl trivial ?_
      rw [nI_1]; exact ih (k + 1) (by omega) (by rw [he]; simp only [lr_fst]; rw [if_neg (by simp_all [lr_sgc])])
    · refine pm_bl [(.aload_n 0, 1, 0, 0, 0), (.iload 4, 2, 4, 0, 0)] (pc1 := 58) (lo1 := [some (.ref 47), some (.int (nI p)), some (.int dy), some (.int (nI e)), some (.int (nI k))]) (st1 := [.int (nI k), .ref 47]) (μ1 := μ) (vc := True) rfl (by decide +kernel) rfl trivial ?_
      refine pm_callV2 mi_X10_houseOf (ix := 112) (b := 47) (ci := 10) (kc2 := 0) (ks2 := 0) (As := [.int (nI k)]) (rest := []) (c_X10_houseOf (h := k) μ hM (by omega)) cal_X10_houseOf lk10_112 (by decide +kernel) rfl (by decide +kernel) rfl rfl rfl rfl (Nat.le_of_ble_eq_true rfl) (by decide) (by decide) (fun _ _ h9 => h9.elim) ?_
      rintro _ _ ⟨rfl, h9⟩; rw [h9]; clear h9
      show pm_V _ _ _ _ 61 _ [.int (g (36 + 4 * k))] _
      refine pm_bl [(.iload_n 3, 1, 3, 0, 0)] (pc1 := 62) (lo1 := [some (.ref 47), some (.int (nI p)), some (.int dy), some (.int (nI e)), some (.int (nI k))]) (st1 := [.int (nI e), .int (g (36 + 4 * k))]) (μ1 := μ) (vc := True) rfl (by decide +kernel) rfl trivial ?_
      refine pm_icmp_ne (off := 16) 78 (by decide +kernel) (by decide) (fun (h62 : ¬ (g (36 + 4 * k)) = (nI e)) => ?_) (fun (h62 : (g (36 + 4 * k)) = (nI e)) => ?_)
      · refine pm_bl [(.iinc 4 1, 3, 4, 0, 1), (.goto (-60), 3, 21, 0, 0)] (pc1 := 21) (lo1 := [some (.ref 47), some (.int (nI p)), some (.int dy), some (.int (nI e)), some (.int ((nI k) + 1))]) (st1 := []) (μ1 := μ) (vc := True) rfl (by decide +kernel) rfl trivial ?_
        rw [nI_1]; exact ih (k + 1) (by omega) (by rw [he]; simp only [lr_fst]; rw [if_neg (by simp_all [lr_sgc])])
      · refine pm_bl [(.aload_n 0, 1, 0, 0, 0), (.iload 4, 2, 4, 0, 0), (.iload_n 2, 1, 2, 0, 0)] (pc1 := 69) (lo1 := [some (.ref 47), some (.int (nI p)), some (.int dy), some (.int (nI e)), some (.int (nI k))]) (st1 := [.int dy, .int (nI k), .ref 47]) (μ1 := μ) (vc := True) rfl (by decide +kernel) rfl trivial ?_
        refine pm_callV2 mi_X10_isAbsent (ix := 121) (b := 47) (ci := 10) (kc2 := 0) (ks2 := 0) (As := [.int (nI k), .int dy]) (rest := []) (c_X10_isAbsent (nI k) dy μ hM hG) cal_X10_isAbsent lk10_121 (by decide +kernel) rfl (by decide +kernel) rfl rfl rfl rfl (Nat.le_of_ble_eq_true rfl) (by decide) (by decide) (fun _ _ h9 => h9.elim) ?_
        rintro _ _ ⟨rfl, h9⟩; rw [h9]; clear h9
        show pm_V _ _ _ _ 72 _ [.int (lr_b (lr_abs g (nI k) dy))] _
        refine pm_ifb_ne (off := 6) 78 (by decide +kernel) (by decide) (fun (h72 : (lr_abs g (nI k) dy) = true) => ?_) (fun (h72 : (lr_abs g (nI k) dy) = false) => ?_)
        · refine pm_bl [(.iinc 4 1, 3, 4, 0, 1), (.goto (-60), 3, 21, 0, 0)] (pc1 := 21) (lo1 := [some (.ref 47), some (.int (nI p)), some (.int dy), some (.int (nI e)), some (.int ((nI k) + 1))]) (st1 := []) (μ1 := μ) (vc := True) rfl (by decide +kernel) rfl trivial ?_
          rw [nI_1]; exact ih (k + 1) (by omega) (by rw [he]; simp only [lr_fst]; rw [if_neg (by simp_all [lr_sgc])])
        · refine pm_bl [(.iload 4, 2, 4, 0, 0)] (pc1 := 77) (lo1 := [some (.ref 47), some (.int (nI p)), some (.int dy), some (.int (nI e)), some (.int (nI k))]) (st1 := [.int (nI k)]) (μ1 := μ) (vc := True) rfl (by decide +kernel) rfl trivial ?_
          exact pm_iret (ty := .int) rfl rfl (by decide) (by decide) (by decide +kernel) (⟨by rw [he]; simp only [lr_fst]; rw [if_pos (by simp_all [lr_sgc])], rfl⟩)
set_option maxHeartbeats 4000000 in
set_option maxRecDepth 100000 in
theorem c_X10_signs {g : Nat → Int32} {p d : Nat} {dy : Int32} (μ : pm_Mm) (hM : μ.1 48 = g) (hG : lr_G g) (hX : lr_X g) (hdy : dy = nI d) (hd : d ≤ 365) (hp : p < lr_n g 35) : pm_CT mi_X10_signs [.ref 47, .int (nI p), .int dy] μ (fun v μ2 => v = some (.int (lr_sg g p dy)) ∧ μ2 = μ) pm_NX := by
  refine pm_CT_of (lo := [some (.ref 47), some (.int (nI p)), some (.int dy), none, none]) (by decide +kernel) rfl rfl (by intro v hv; simp at hv; rcases hv with rfl | rfl | rfl <;> rfl) (Nat.le_of_ble_eq_true rfl) rfl ?_
  have hm1 := lr_mh hG; have hm2 := lr_mw hG; have hm3 := lr_mp hG; have hm4 := lr_mr hG; have hm5 := lr_ma hG; have hm6 := lr_ml hG
  refine pm_bl [(.aload_n 0, 1, 0, 0, 0), (.iload_n 1, 1, 1, 0, 0), (.iload_n 2, 1, 2, 0, 0)] (pc1 := 3) (lo1 := [some (.ref 47), some (.int (nI p)), some (.int dy), none, none]) (st1 := [.int dy, .int (nI p), .ref 47]) (μ1 := μ) (vc := True) rfl (by decide +kernel) rfl trivial ?_
  refine pm_callV2 mi_X10_isAbsent (ix := 121) (b := 47) (ci := 10) (kc2 := 0) (ks2 := 0) (As := [.int (nI p), .int dy]) (rest := []) (c_X10_isAbsent (nI p) dy μ hM hG) cal_X10_isAbsent lk10_121 (by decide +kernel) rfl (by decide +kernel) rfl rfl rfl rfl (Nat.le_of_ble_eq_true rfl) (by decide) (by decide) (fun _ _ h9 => h9.elim) ?_
  rintro _ _ ⟨rfl, h9⟩; rw [h9]; clear h9
  show pm_V _ _ _ _ 6 _ [.int (lr_b (lr_abs g (nI p) dy))] _
  refine pm_ifb_ne (off := 5) 11 (by decide +kernel) (by decide) (fun (h6 : (lr_abs g (nI p) dy) = true) => ?_) (fun (h6 : (lr_abs g (nI p) dy) = false) => ?_)
  · refine pm_bl [(.aload_n 0, 1, 0, 0, 0), (.iload_n 1, 1, 1, 0, 0), (.iload_n 2, 1, 2, 0, 0)] (pc1 := 14) (lo1 := [some (.ref 47), some (.int (nI p)), some (.int dy), none, none]) (st1 := [.int dy, .int (nI p), .ref 47]) (μ1 := μ) (vc := True) rfl (by decide +kernel) rfl trivial ?_
    refine pm_callV2 mi_X10_wayEnds (ix := 118) (b := 47) (ci := 10) (kc2 := 0) (ks2 := 0) (As := [.int (nI p), .int dy]) (rest := []) (c_X10_wayEnds (p := p) (dy := dy) (d := d) μ hM hG hX hdy hd (by omega)) cal_X10_wayEnds lk10_118 (by decide +kernel) rfl (by decide +kernel) rfl rfl rfl rfl (Nat.le_of_ble_eq_true rfl) (by decide) (by decide) (fun _ _ h9 => h9.elim) ?_
    rintro _ _ ⟨rfl, h9⟩; rw [h9]; clear h9
    obtain ⟨e14, he14, hf14⟩ := lr_we_ok hG (p := p) (by omega) dy
    rw [he14]
    show pm_V _ _ _ _ 17 _ [.int (nI e14)] _
    refine pm_bl [(.istore_n 3, 1, 3, 0, 0), (.iconst 0, 1, 0, 0, 0), (.istore 4, 2, 4, 0, 0)] (pc1 := 21) (lo1 := [some (.ref 47), some (.int (nI p)), some (.int dy), some (.int (nI e14)), some (.int 0)]) (st1 := []) (μ1 := μ) (vc := True) rfl (by decide +kernel) rfl trivial ?_
    rw [lr_sg, if_neg (by simp_all), he14]
    exact l_X10_signs p hp e14 dy μ hM hG (lr_n g 35) 0 (Nat.zero_add _) rfl
  · refine pm_bl [(.iload_n 1, 1, 1, 0, 0)] (pc1 := 10) (lo1 := [some (.ref 47), some (.int (nI p)), some (.int dy), none, none]) (st1 := [.int (nI p)]) (μ1 := μ) (vc := True) rfl (by decide +kernel) rfl trivial ?_
    exact pm_iret (ty := .int) rfl rfl (by decide) (by decide) (by decide +kernel) (⟨by rw [lr_sg, if_pos h6], rfl⟩)
theorem lr_okn {g : Nat → Int32} (hG : lr_G g) {x : Int32} (h : x = -1 ∨ ∃ t, x = nI t ∧ t < lr_n g 2) : x < 0 ↔ x = -1 := by
  have := lr_mh hG
  rcases h with e | ⟨t, h1, h2⟩
  · rw [e]; decide
  · rw [h1]; exact ⟨fun h => absurd h (nI_pos (by omega)), fun h => absurd h (lr_ne1 (by omega))⟩
set_option maxHeartbeats 4000000 in
set_option maxRecDepth 100000 in
theorem l_X10_isRoundOn_in {g : Nat → Int32} (dy : Int32) (i : Nat) (μ : pm_Mm) (hM : μ.1 48 = g) (hG : lr_G g) : ∀ n k : Nat, ∀ x : Int32, k + n = 16 → (x = -1 ∨ ∃ t, x = nI t ∧ t < lr_n g 2) → pm_V mi_X10_isRoundOn ((fun v μ2 => v = some (.int (lr_b (lr_rnd g dy))) ∧ μ2 = μ), pm_NX, fun _ _ _ => True) 0 0 48 [some (.ref 47), some (.int dy), some (.int (nI i)), some (.int (lr_on g dy n x)), none] [] μ → pm_V mi_X10_isRoundOn ((fun v μ2 => v = some (.int (lr_b (lr_rnd g dy))) ∧ μ2 = μ), pm_NX, fun _ _ _ => True) 0 0 23 [some (.ref 47), some (.int dy), some (.int (nI i)), some (.int x), some (.int (nI k))] [] μ := by
  have hm1 := lr_mh hG; have hm2 := lr_mw hG; have hm3 := lr_mp hG; have hm4 := lr_mr hG; have hm5 := lr_ma hG; have hm6 := lr_ml hG
  intro n
  induction n with
  | zero =>
    intro k x hk hx K
    have K : pm_V mi_X10_isRoundOn ((fun v μ2 => v = some (.int (lr_b (lr_rnd g dy))) ∧ μ2 = μ), pm_NX, fun _ _ _ => True) 0 0 48 [some (.ref 47), some (.int dy), some (.int (nI i)), some (.int x), none] [] μ := K
    refine pm_bl [(.iload_n 3, 1, 3, 0, 0)] (pc1 := 24) (lo1 := [some (.ref 47), some (.int dy), some (.int (nI i)), some (.int x), some (.int (nI k))]) (st1 := [.int x]) (μ1 := μ) (vc := True) rfl (by decide +kernel) rfl trivial ?_
    refine pm_if_lt (off := 24) 48 (by decide +kernel) (by decide) (fun (h24 : x < 0) => ?_) (fun (h24 : ¬ (x < 0)) => ?_)
    · exact pm_V.drop (lo' := [some (.ref 47), some (.int dy), some (.int (nI i)), some (.int x), none]) ⟨rfl, rfl, rfl, rfl, trivial⟩ K
    · refine pm_bl [(.iload 4, 2, 4, 0, 0), (.bipush 16, 2, 0, 0, 16)] (pc1 := 31) (lo1 := [some (.ref 47), some (.int dy), some (.int (nI i)), some (.int x), some (.int (nI k))]) (st1 := [.int 16, .int (nI k)]) (μ1 := μ) (vc := True) rfl (by decide +kernel) rfl trivial ?_
      refine pm_icmp_ge (off := 17) 48 (by decide +kernel) (by decide) (fun (h31 : 16 ≤ (nI k)) => ?_) (fun (h9 : ¬ (16 ≤ (nI k))) => absurd (nI_le (a := 16) (by omega) (by omega)) h9)
      exact pm_V.drop (lo' := [some (.ref 47), some (.int dy), some (.int (nI i)), some (.int x), none]) ⟨rfl, rfl, rfl, rfl, trivial⟩ K
  | succ n ih =>
    intro k x hk hx K
    refine pm_bl [(.iload_n 3, 1, 3, 0, 0)] (pc1 := 24) (lo1 := [some (.ref 47), some (.int dy), some (.int (nI i)), some (.int x), some (.int (nI k))]) (st1 := [.int x]) (μ1 := μ) (vc := True) rfl (by decide +kernel) rfl trivial ?_
    refine pm_if_lt (off := 24) 48 (by decide +kernel) (by decide) (fun (h24 : x < 0) => ?_) (fun (h24 : ¬ (x < 0)) => ?_)
    · have e := (lr_okn hG hx).mp h24
      rw [lr_on, if_pos e] at K
      exact pm_V.drop (lo' := [some (.ref 47), some (.int dy), some (.int (nI i)), some (.int x), none]) ⟨rfl, rfl, rfl, rfl, trivial⟩ K
    · refine pm_bl [(.iload 4, 2, 4, 0, 0), (.bipush 16, 2, 0, 0, 16)] (pc1 := 31) (lo1 := [some (.ref 47), some (.int dy), some (.int (nI i)), some (.int x), some (.int (nI k))]) (st1 := [.int 16, .int (nI k)]) (μ1 := μ) (vc := True) rfl (by decide +kernel) rfl trivial ?_
      refine pm_icmp_ge (off := 17) 48 (by decide +kernel) (by decide) (fun (h9 : 16 ≤ (nI k)) => absurd h9 (nI_ge (b := 16) (by omega) (by omega))) (fun (h31 : ¬ (16 ≤ (nI k))) => ?_)
      refine pm_bl [(.aload_n 0, 1, 0, 0, 0), (.iconst 1, 1, 0, 0, 1), (.iload_n 3, 1, 3, 0, 0), (.iload_n 1, 1, 1, 0, 0)] (pc1 := 38) (lo1 := [some (.ref 47), some (.int dy), some (.int (nI i)), some (.int x), some (.int (nI k))]) (st1 := [.int dy, .int x, .int 1, .ref 47]) (μ1 := μ) (vc := True) rfl (by decide +kernel) rfl trivial ?_
      refine pm_callV2 mi_X10_leads (ix := 87) (b := 47) (ci := 10) (kc2 := 0) (ks2 := 0) (As := [.int 1, .int x, .int dy]) (rest := []) (c_X10_leads 1 x dy μ hM hG) cal_X10_leads lk10_87 (by decide +kernel) rfl (by decide +kernel) rfl rfl rfl rfl (Nat.le_of_ble_eq_true rfl) (by decide) (by decide) (fun _ _ h9 => h9.elim) ?_
      rintro _ _ ⟨rfl, h9⟩; rw [h9]; clear h9
      show pm_V _ _ _ _ 41 _ [.int (lr_ld g 1 x dy)] _
      refine pm_bl [(.istore_n 3, 1, 3, 0, 0), (.iinc 4 1, 3, 4, 0, 1), (.goto (-22), 3, 23, 0, 0)] (pc1 := 23) (lo1 := [some (.ref 47), some (.int dy), some (.int (nI i)), some (.int (lr_ld g 1 x dy)), some (.int ((nI k) + 1))]) (st1 := []) (μ1 := μ) (vc := True) rfl (by decide +kernel) rfl trivial ?_
      rw [nI_1]
      refine ih (k + 1) _ (by omega) (lr_ld_ok hG 1 x dy) ?_
      rw [lr_on, if_neg (fun e => h24 ((lr_okn hG hx).mpr e))] at K
      exact K
set_option maxHeartbeats 4000000 in
set_option maxRecDepth 100000 in
theorem l_X10_isRoundOn {g : Nat → Int32} (dy : Int32) (μ : pm_Mm) (hM : μ.1 48 = g) (hG : lr_G g) : ∀ n k : Nat, k + n = lr_n g 2 → lr_rnd g dy = lr_any (fun h => decide (0 ≤ lr_on g dy 17 (nI h))) n k → pm_V mi_X10_isRoundOn ((fun v μ2 => v = some (.int (lr_b (lr_rnd g dy))) ∧ μ2 = μ), pm_NX, fun _ _ _ => True) 0 0 2 [some (.ref 47), some (.int dy), some (.int (nI k)), none, none] [] μ := by
  have hm1 := lr_mh hG; have hm2 := lr_mw hG; have hm3 := lr_mp hG; have hm4 := lr_mr hG; have hm5 := lr_ma hG; have hm6 := lr_ml hG
  intro n
  induction n with
  | zero =>
    intro k hk he
    refine pm_bl [(.iload_n 2, 1, 2, 0, 0), (.aload_n 0, 1, 0, 0, 0), (.getfield 7, 3, 10, 0, 0), (.iconst 2, 1, 0, 0, 2), (.iaload, 1, 0, 0, 0)] (pc1 := 9) (lo1 := [some (.ref 47), some (.int dy), some (.int (nI k)), none, none]) (st1 := [.int (μ.1 48 (2 : Int32).toNatClampNeg), .int (nI k)]) (μ1 := μ) (vc := vp_in 2 620 ∧ True) rfl (by decide +kernel) rfl ⟨(by unfold vp_in; decide), trivial⟩ ?_
    rw [show (2 : Int32).toNatClampNeg = 2 from by decide, hM, lr_gh hG]
    refine pm_icmp_ge (off := 51) 60 (by decide +kernel) (by decide) (fun (h9 : (nI (lr_n g 2)) ≤ (nI k)) => ?_) (fun (h9 : ¬ ((nI (lr_n g 2)) ≤ (nI k))) => absurd (nI_le (by omega) (by omega)) h9)
    refine pm_bl [(.iconst 0, 1, 0, 0, 0)] (pc1 := 61) (lo1 := [some (.ref 47), some (.int dy), some (.int (nI k)), none, none]) (st1 := [.int 0]) (μ1 := μ) (vc := True) rfl (by decide +kernel) rfl trivial ?_
    exact pm_iret (ty := .boolean) rfl (rfl) (by decide) (by decide) (by decide +kernel) (⟨by rw [he]; rfl, rfl⟩)
  | succ n ih =>
    intro k hk he
    refine pm_bl [(.iload_n 2, 1, 2, 0, 0), (.aload_n 0, 1, 0, 0, 0), (.getfield 7, 3, 10, 0, 0), (.iconst 2, 1, 0, 0, 2), (.iaload, 1, 0, 0, 0)] (pc1 := 9) (lo1 := [some (.ref 47), some (.int dy), some (.int (nI k)), none, none]) (st1 := [.int (μ.1 48 (2 : Int32).toNatClampNeg), .int (nI k)]) (μ1 := μ) (vc := vp_in 2 620 ∧ True) rfl (by decide +kernel) rfl ⟨(by unfold vp_in; decide), trivial⟩ ?_
    rw [show (2 : Int32).toNatClampNeg = 2 from by decide, hM, lr_gh hG]
    refine pm_icmp_ge (off := 51) 60 (by decide +kernel) (by decide) (fun (h9 : (nI (lr_n g 2)) ≤ (nI k)) => absurd h9 (nI_ge (by omega) (by omega))) (fun (h9 : ¬ ((nI (lr_n g 2)) ≤ (nI k))) => ?_)
    refine pm_bl [(.aload_n 0, 1, 0, 0, 0), (.iconst 1, 1, 0, 0, 1), (.iload_n 2, 1, 2, 0, 0), (.iload_n 1, 1, 1, 0, 0)] (pc1 := 16) (lo1 := [some (.ref 47), some (.int dy), some (.int (nI k)), none, none]) (st1 := [.int dy, .int (nI k), .int 1, .ref 47]) (μ1 := μ) (vc := True) rfl (by decide +kernel) rfl trivial ?_
    refine pm_callV2 mi_X10_leads (ix := 87) (b := 47) (ci := 10) (kc2 := 0) (ks2 := 0) (As := [.int 1, .int (nI k), .int dy]) (rest := []) (c_X10_leads 1 (nI k) dy μ hM hG) cal_X10_leads lk10_87 (by decide +kernel) rfl (by decide +kernel) rfl rfl rfl rfl (Nat.le_of_ble_eq_true rfl) (by decide) (by decide) (fun _ _ h9 => h9.elim) ?_
    rintro _ _ ⟨rfl, h9⟩; rw [h9]; clear h9
    show pm_V _ _ _ _ 19 _ [.int (lr_ld g 1 (nI k) dy)] _
    refine pm_bl [(.istore_n 3, 1, 3, 0, 0), (.iconst 0, 1, 0, 0, 0), (.istore 4, 2, 4, 0, 0)] (pc1 := 23) (lo1 := [some (.ref 47), some (.int dy), some (.int (nI k)), some (.int (lr_ld g 1 (nI k) dy)), some (.int 0)]) (st1 := []) (μ1 := μ) (vc := True) rfl (by decide +kernel) rfl trivial ?_
    refine l_X10_isRoundOn_in dy k μ hM hG 16 0 _ (by omega) (lr_ld_ok hG 1 (nI k) dy) ?_
    obtain ⟨z, hz0⟩ : ∃ z, z = lr_on g dy 16 (lr_ld g 1 (nI k) dy) := ⟨_, rfl⟩
    rw [← hz0]
    have hz : lr_on g dy 17 (nI k) = z := by rw [hz0, lr_on, if_neg (lr_ne1 (by omega))]
    refine pm_bl [(.iload_n 3, 1, 3, 0, 0)] (pc1 := 49) (lo1 := [some (.ref 47), some (.int dy), some (.int (nI k)), some (.int z), none]) (st1 := [.int z]) (μ1 := μ) (vc := True) rfl (by decide +kernel) rfl trivial ?_
    refine pm_if_lt (off := 5) 54 (by decide +kernel) (by decide) (fun (h49 : z < 0) => ?_) (fun (h49 : ¬ (z < 0)) => ?_)
    · refine pm_bl [(.iinc 2 1, 3, 2, 0, 1), (.goto (-55), 3, 2, 0, 0)] (pc1 := 2) (lo1 := [some (.ref 47), some (.int dy), some (.int ((nI k) + 1)), some (.int z), none]) (st1 := []) (μ1 := μ) (vc := True) rfl (by decide +kernel) rfl trivial ?_
      refine pm_V.drop (lo' := [some (.ref 47), some (.int dy), some (.int (nI k + 1)), none, none]) ⟨rfl, rfl, rfl, trivial⟩ ?_; rw [nI_1]; exact ih (k + 1) (by omega) (by rw [he]; simp only [lr_any]; rw [if_neg (by rw [hz]; simpa using h49)])
    · refine pm_bl [(.iconst 1, 1, 0, 0, 1)] (pc1 := 53) (lo1 := [some (.ref 47), some (.int dy), some (.int (nI k)), some (.int z), none]) (st1 := [.int 1]) (μ1 := μ) (vc := True) rfl (by decide +kernel) rfl trivial ?_
      exact pm_iret (ty := .boolean) rfl (rfl) (by decide) (by decide) (by decide +kernel) (⟨by rw [he]; simp only [lr_any]; rw [if_pos (by rw [hz]; simpa using h49)]; rfl, rfl⟩)
set_option maxHeartbeats 4000000 in
set_option maxRecDepth 100000 in
theorem c_X10_isRoundOn {g : Nat → Int32} (dy : Int32) (μ : pm_Mm) (hM : μ.1 48 = g) (hG : lr_G g) : pm_CT mi_X10_isRoundOn [.ref 47, .int dy] μ (fun v μ2 => v = some (.int (lr_b (lr_rnd g dy))) ∧ μ2 = μ) pm_NX := by
  refine pm_CT_of (lo := [some (.ref 47), some (.int dy), none, none, none]) (by decide +kernel) rfl rfl (by intro v hv; simp at hv; rcases hv with rfl | rfl <;> rfl) (Nat.le_of_ble_eq_true rfl) rfl ?_
  refine pm_bl [(.iconst 0, 1, 0, 0, 0), (.istore_n 2, 1, 2, 0, 0)] (pc1 := 2) (lo1 := [some (.ref 47), some (.int dy), some (.int 0), none, none]) (st1 := []) (μ1 := μ) (vc := True) rfl (by decide +kernel) rfl trivial ?_
  exact l_X10_isRoundOn dy μ hM hG (lr_n g 2) 0 (Nat.zero_add _) rfl
def lr_rr (g : Nat → Int32) : Bool := lr_any (fun r => lr_rnd g (g (171 + 5 * r)) || (decide (g (172 + 5 * r) < 365) && lr_rnd g (g (172 + 5 * r) + 1))) (lr_n g 167) 0
set_option maxHeartbeats 4000000 in
set_option maxRecDepth 100000 in
theorem l_X10_isRound {g : Nat → Int32} (μ : pm_Mm) (hM : μ.1 48 = g) (hG : lr_G g) : ∀ n k : Nat, k + n = lr_n g 167 → lr_rr g = lr_any (fun r => lr_rnd g (g (171 + 5 * r)) || (decide (g (172 + 5 * r) < 365) && lr_rnd g (g (172 + 5 * r) + 1))) n k → pm_V mi_X10_isRound ((fun v μ2 => v = some (.int (lr_b (lr_rr g))) ∧ μ2 = μ), pm_NX, fun _ _ _ => True) 0 0 2 [some (.ref 47), some (.int (nI k))] [] μ := by
  have hm1 := lr_mh hG; have hm2 := lr_mw hG; have hm3 := lr_mp hG; have hm4 := lr_mr hG; have hm5 := lr_ma hG; have hm6 := lr_ml hG
  intro n
  induction n with
  | zero =>
    intro k hk he
    refine pm_bl [(.iload_n 1, 1, 1, 0, 0), (.aload_n 0, 1, 0, 0, 0), (.getfield 7, 3, 10, 0, 0), (.sipush 167, 3, 0, 0, 167), (.iaload, 1, 0, 0, 0)] (pc1 := 11) (lo1 := [some (.ref 47), some (.int (nI k))]) (st1 := [.int (μ.1 48 (167 : Int32).toNatClampNeg), .int (nI k)]) (μ1 := μ) (vc := vp_in 167 620 ∧ True) rfl (by decide +kernel) rfl ⟨(by unfold vp_in; decide), trivial⟩ ?_
    rw [show (167 : Int32).toNatClampNeg = 167 from by decide, hM, lr_gr hG]
    refine pm_icmp_ge (off := 75) 86 (by decide +kernel) (by decide) (fun (h11 : (nI (lr_n g 167)) ≤ (nI k)) => ?_) (fun (h9 : ¬ ((nI (lr_n g 167)) ≤ (nI k))) => absurd (nI_le (by omega) (by omega)) h9)
    refine pm_bl [(.iconst 0, 1, 0, 0, 0)] (pc1 := 87) (lo1 := [some (.ref 47), some (.int (nI k))]) (st1 := [.int 0]) (μ1 := μ) (vc := True) rfl (by decide +kernel) rfl trivial ?_
    exact pm_iret (ty := .boolean) rfl (rfl) (by decide) (by decide) (by decide +kernel) (⟨by rw [he]; rfl, rfl⟩)
  | succ n ih =>
    intro k hk he
    refine pm_bl [(.iload_n 1, 1, 1, 0, 0), (.aload_n 0, 1, 0, 0, 0), (.getfield 7, 3, 10, 0, 0), (.sipush 167, 3, 0, 0, 167), (.iaload, 1, 0, 0, 0)] (pc1 := 11) (lo1 := [some (.ref 47), some (.int (nI k))]) (st1 := [.int (μ.1 48 (167 : Int32).toNatClampNeg), .int (nI k)]) (μ1 := μ) (vc := vp_in 167 620 ∧ True) rfl (by decide +kernel) rfl ⟨(by unfold vp_in; decide), trivial⟩ ?_
    rw [show (167 : Int32).toNatClampNeg = 167 from by decide, hM, lr_gr hG]
    refine pm_icmp_ge (off := 75) 86 (by decide +kernel) (by decide) (fun (h9 : (nI (lr_n g 167)) ≤ (nI k)) => absurd h9 (nI_ge (by omega) (by omega))) (fun (h11 : ¬ ((nI (lr_n g 167)) ≤ (nI k))) => ?_)
    refine pm_bl [(.aload_n 0, 1, 0, 0, 0), (.aload_n 0, 1, 0, 0, 0), (.getfield 7, 3, 10, 0, 0), (.sipush 168, 3, 0, 0, 168), (.iconst 5, 1, 0, 0, 5), (.iload_n 1, 1, 1, 0, 0), (.imul, 1, 0, 0, 0), (.iadd, 1, 0, 0, 0), (.iconst 3, 1, 0, 0, 3), (.iadd, 1, 0, 0, 0)] (pc1 := 28) (lo1 := [some (.ref 47), some (.int (nI k))]) (st1 := [.int ((168 + (5 * (nI k))) + 3), .ref 48, .ref 47]) (μ1 := μ) (vc := True) rfl (by decide +kernel) rfl trivial ?_
    rw [(show ((168 + (5 * (nI k))) + 3 : Int32) = nI ((168 + (5 * (k))) + 3) from by simp only [nI, Int32.ofNat_add, Int32.ofNat_mul]; rfl).trans (congrArg nI (show (168 + (5 * (k))) + 3 = 171 + 5 * k from by omega))]
    refine pm_bl [(.iaload, 1, 0, 0, 0)] (pc1 := 29) (lo1 := [some (.ref 47), some (.int (nI k))]) (st1 := [.int (μ.1 48 (nI (171 + 5 * k)).toNatClampNeg), .ref 47]) (μ1 := μ) (vc := vp_in (nI (171 + 5 * k)) 620 ∧ True) rfl (by decide +kernel) rfl ⟨(vp_in_nI (by omega) (by omega)), trivial⟩ ?_
    first | rw [nI_clamp (n := 171 + 5 * k) (by omega), hM] | rw [hM]
    refine pm_callV2 mi_X10_isRoundOn (ix := 91) (b := 47) (ci := 10) (kc2 := 0) (ks2 := 0) (As := [.int (g (171 + 5 * k))]) (rest := []) (c_X10_isRoundOn (g (171 + 5 * k)) μ hM hG) cal_X10_isRoundOn lk10_91 (by decide +kernel) rfl (by decide +kernel) rfl rfl rfl rfl (Nat.le_of_ble_eq_true rfl) (by decide) (by decide) (fun _ _ h9 => h9.elim) ?_
    rintro _ _ ⟨rfl, h9⟩; rw [h9]; clear h9
    show pm_V _ _ _ _ 32 _ [.int (lr_b (lr_rnd g (g (171 + 5 * k))))] _
    refine pm_ifb_ne (off := 46) 78 (by decide +kernel) (by decide) (fun (h32 : (lr_rnd g (g (171 + 5 * k))) = true) => ?_) (fun (h32 : (lr_rnd g (g (171 + 5 * k))) = false) => ?_)
    · refine pm_bl [(.iconst 1, 1, 0, 0, 1)] (pc1 := 79) (lo1 := [some (.ref 47), some (.int (nI k))]) (st1 := [.int 1]) (μ1 := μ) (vc := True) rfl (by decide +kernel) rfl trivial ?_
      exact pm_iret (ty := .boolean) rfl (rfl) (by decide) (by decide) (by decide +kernel) (⟨by rw [he]; simp only [lr_any]; rw [if_pos (by simp_all)]; rfl, rfl⟩)
    · refine pm_bl [(.aload_n 0, 1, 0, 0, 0), (.getfield 7, 3, 10, 0, 0), (.sipush 168, 3, 0, 0, 168), (.iconst 5, 1, 0, 0, 5), (.iload_n 1, 1, 1, 0, 0), (.imul, 1, 0, 0, 0), (.iadd, 1, 0, 0, 0), (.iconst 4, 1, 0, 0, 4), (.iadd, 1, 0, 0, 0)] (pc1 := 48) (lo1 := [some (.ref 47), some (.int (nI k))]) (st1 := [.int ((168 + (5 * (nI k))) + 4), .ref 48]) (μ1 := μ) (vc := True) rfl (by decide +kernel) rfl trivial ?_
      rw [(show ((168 + (5 * (nI k))) + 4 : Int32) = nI ((168 + (5 * (k))) + 4) from by simp only [nI, Int32.ofNat_add, Int32.ofNat_mul]; rfl).trans (congrArg nI (show (168 + (5 * (k))) + 4 = 172 + 5 * k from by omega))]
      refine pm_bl [(.iaload, 1, 0, 0, 0)] (pc1 := 49) (lo1 := [some (.ref 47), some (.int (nI k))]) (st1 := [.int (μ.1 48 (nI (172 + 5 * k)).toNatClampNeg)]) (μ1 := μ) (vc := vp_in (nI (172 + 5 * k)) 620 ∧ True) rfl (by decide +kernel) rfl ⟨(vp_in_nI (by omega) (by omega)), trivial⟩ ?_
      first | rw [nI_clamp (n := 172 + 5 * k) (by omega), hM] | rw [hM]
      refine pm_bl [(.sipush 365, 3, 0, 0, 365)] (pc1 := 52) (lo1 := [some (.ref 47), some (.int (nI k))]) (st1 := [.int 365, .int (g (172 + 5 * k))]) (μ1 := μ) (vc := True) rfl (by decide +kernel) rfl trivial ?_
      refine pm_icmp_ge (off := 28) 80 (by decide +kernel) (by decide) (fun (h52 : 365 ≤ (g (172 + 5 * k))) => ?_) (fun (h52 : ¬ (365 ≤ (g (172 + 5 * k)))) => ?_)
      · refine pm_bl [(.iinc 1 1, 3, 1, 0, 1), (.goto (-81), 3, 2, 0, 0)] (pc1 := 2) (lo1 := [some (.ref 47), some (.int ((nI k) + 1))]) (st1 := []) (μ1 := μ) (vc := True) rfl (by decide +kernel) rfl trivial ?_
        rw [nI_1]; exact ih (k + 1) (by omega) (by rw [he]; simp only [lr_any]; rw [if_neg (by simp_all <;> (intro hh; exact absurd hh (Int32.not_lt.mpr (by assumption))))])
      · refine pm_bl [(.aload_n 0, 1, 0, 0, 0), (.aload_n 0, 1, 0, 0, 0), (.getfield 7, 3, 10, 0, 0), (.sipush 168, 3, 0, 0, 168), (.iconst 5, 1, 0, 0, 5), (.iload_n 1, 1, 1, 0, 0), (.imul, 1, 0, 0, 0), (.iadd, 1, 0, 0, 0), (.iconst 4, 1, 0, 0, 4), (.iadd, 1, 0, 0, 0)] (pc1 := 69) (lo1 := [some (.ref 47), some (.int (nI k))]) (st1 := [.int ((168 + (5 * (nI k))) + 4), .ref 48, .ref 47]) (μ1 := μ) (vc := True) rfl (by decide +kernel) rfl trivial ?_
        rw [(show ((168 + (5 * (nI k))) + 4 : Int32) = nI ((168 + (5 * (k))) + 4) from by simp only [nI, Int32.ofNat_add, Int32.ofNat_mul]; rfl).trans (congrArg nI (show (168 + (5 * (k))) + 4 = 172 + 5 * k from by omega))]
        refine pm_bl [(.iaload, 1, 0, 0, 0)] (pc1 := 70) (lo1 := [some (.ref 47), some (.int (nI k))]) (st1 := [.int (μ.1 48 (nI (172 + 5 * k)).toNatClampNeg), .ref 47]) (μ1 := μ) (vc := vp_in (nI (172 + 5 * k)) 620 ∧ True) rfl (by decide +kernel) rfl ⟨(vp_in_nI (by omega) (by omega)), trivial⟩ ?_
        first | rw [nI_clamp (n := 172 + 5 * k) (by omega), hM] | rw [hM]
        refine pm_bl [(.iconst 1, 1, 0, 0, 1), (.iadd, 1, 0, 0, 0)] (pc1 := 72) (lo1 := [some (.ref 47), some (.int (nI k))]) (st1 := [.int ((g (172 + 5 * k)) + 1), .ref 47]) (μ1 := μ) (vc := True) rfl (by decide +kernel) rfl trivial ?_
        refine pm_callV2 mi_X10_isRoundOn (ix := 91) (b := 47) (ci := 10) (kc2 := 0) (ks2 := 0) (As := [.int ((g (172 + 5 * k)) + 1)]) (rest := []) (c_X10_isRoundOn ((g (172 + 5 * k)) + 1) μ hM hG) cal_X10_isRoundOn lk10_91 (by decide +kernel) rfl (by decide +kernel) rfl rfl rfl rfl (Nat.le_of_ble_eq_true rfl) (by decide) (by decide) (fun _ _ h9 => h9.elim) ?_
        rintro _ _ ⟨rfl, h9⟩; rw [h9]; clear h9
        show pm_V _ _ _ _ 75 _ [.int (lr_b (lr_rnd g ((g (172 + 5 * k)) + 1)))] _
        refine pm_ifb_eq (off := 5) 80 (by decide +kernel) (by decide) (fun (h75 : (lr_rnd g ((g (172 + 5 * k)) + 1)) = false) => ?_) (fun (h75 : (lr_rnd g ((g (172 + 5 * k)) + 1)) = true) => ?_)
        · refine pm_bl [(.iinc 1 1, 3, 1, 0, 1), (.goto (-81), 3, 2, 0, 0)] (pc1 := 2) (lo1 := [some (.ref 47), some (.int ((nI k) + 1))]) (st1 := []) (μ1 := μ) (vc := True) rfl (by decide +kernel) rfl trivial ?_
          rw [nI_1]; exact ih (k + 1) (by omega) (by rw [he]; simp only [lr_any]; rw [if_neg (by simp_all <;> (intro hh; exact absurd hh (Int32.not_lt.mpr (by assumption))))])
        · refine pm_bl [(.iconst 1, 1, 0, 0, 1)] (pc1 := 79) (lo1 := [some (.ref 47), some (.int (nI k))]) (st1 := [.int 1]) (μ1 := μ) (vc := True) rfl (by decide +kernel) rfl trivial ?_
          exact pm_iret (ty := .boolean) rfl (rfl) (by decide) (by decide) (by decide +kernel) (⟨by rw [he]; simp only [lr_any]; rw [if_pos (by simp_all)]; rfl, rfl⟩)
set_option maxHeartbeats 4000000 in
set_option maxRecDepth 100000 in
theorem c_X10_isRound {g : Nat → Int32} (μ : pm_Mm) (hM : μ.1 48 = g) (hG : lr_G g) : pm_CT mi_X10_isRound [.ref 47] μ (fun v μ2 => v = some (.int (lr_b (lr_rr g))) ∧ μ2 = μ) pm_NX := by
  refine pm_CT_of (lo := [some (.ref 47), none]) (by decide +kernel) rfl rfl (by intro v hv; simp at hv; rcases hv with rfl <;> rfl) (Nat.le_of_ble_eq_true rfl) rfl ?_
  refine pm_bl [(.iconst 0, 1, 0, 0, 0), (.istore_n 1, 1, 1, 0, 0)] (pc1 := 2) (lo1 := [some (.ref 47), some (.int 0)]) (st1 := []) (μ1 := μ) (vc := True) rfl (by decide +kernel) rfl trivial ?_
  exact l_X10_isRound μ hM hG (lr_n g 167) 0 (Nat.zero_add _) rfl
