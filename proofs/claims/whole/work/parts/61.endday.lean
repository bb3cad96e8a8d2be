/-! the class: keys, handing over, the end of a day -/
set_option maxHeartbeats 4000000 in
set_option maxRecDepth 100000 in
theorem c_X5_roundKey {g : Nat → Int32} {l : Nat} (μ : pm_Mm) (hR : lr_Rel μ.1 1 g) (hG : lr_G g) (hl : l < lr_n g 289) (hd : lr_due g l = true) : pm_CT mi_X5_roundKey [.ref 1, .int (nI l)] μ (fun v μ2 => v = some (.int (nI (lr_ky g l))) ∧ μ2 = μ) pm_NX := by
  refine pm_CT_of (lo := [some (.ref 1), some (.int (nI l)), none, none]) (by decide +kernel) rfl rfl (by intro v hv; simp at hv; rcases hv with rfl | rfl <;> rfl) (Nat.le_of_ble_eq_true rfl) rfl ?_
  have hm1 := lr_mh hG; have hm2 := lr_mw hG; have hm3 := lr_mp hG; have hm4 := lr_mr hG; have hm5 := lr_ma hG; have hm6 := lr_ml hG
  obtain ⟨p, hp⟩ : ∃ p, lr_n g (290 + 11 * l) = p := ⟨_, rfl⟩
  have hP := lr_Lc.p hG hl
  rw [hp] at hP
  have hP1 := hP.1; have hP2 := hP.2
  have hT := lr_gT hG
  obtain ⟨x, u, w, ex, hx, dx, hu, eu, ew, w1, w9, -⟩ := lr_due_at hG hl hd
  unfold lr_hoF at ex
  rw [hp, hT] at ex
  have hs16 := lr_spn_lt2 hx
  have hw9 : lr_n g (291 + 11 * l) = w := by unfold lr_n; rw [ew]; exact nI_clamp (by omega)
  have hsv : (lr_sv g x).toNatClampNeg = u := by rw [eu]; exact nI_clamp (by omega)
  refine pm_bl [(.aload_n 0, 1, 0, 0, 0), (.aload_n 0, 1, 0, 0, 0), (.getfield 49, 3, 5, 5, 0), (.getfield 128, 3, 4, 2, 0), (.iload_n 1, 1, 1, 0, 0), (.iaload, 1, 0, 0, 0), (.aload_n 0, 1, 0, 0, 0), (.getfield 53, 3, 5, 6, 0)] (pc1 := 14) (lo1 := [some (.ref 1), some (.int (nI l)), none, none]) (st1 := [.int (μ.1 1 6), .int (μ.1 27 (nI l).toNatClampNeg), .ref 1]) (μ1 := μ) (vc := vp_in (nI l) 30 ∧ True) rfl (by decide +kernel) rfl ⟨(vp_in_nI (by omega) (by omega)), trivial⟩ ?_
  first | rw [nI_clamp (n := l) (by omega), lr_rlpe hR hl, hP1] | rw [lr_rlpe hR hl, hP1]
  rw [lr_rT hR, lr_gT hG]
  refine pm_callV2 mi_X5_endOfWay (ix := 119) (b := 1) (ci := 5) (kc2 := 0) (ks2 := 0) (As := [.int (nI p), .int (nI (lr_n g 0))]) (rest := []) (c_X5_endOfWay (p := p) (nI (lr_n g 0)) μ hR hG hP2) cal_X5_endOfWay lk5_119 (by decide +kernel) rfl (by decide +kernel) rfl rfl rfl rfl (Nat.le_of_ble_eq_true rfl) (by decide) (by decide) (fun _ _ h9 => h9.elim) ?_
  rintro _ _ ⟨rfl, h9⟩; rw [h9]; clear h9
  rw [ex]
  show pm_V _ _ _ _ 17 _ [.int (nI x)] _
  refine pm_bl [(.istore_n 2, 1, 2, 0, 0), (.aload_n 0, 1, 0, 0, 0), (.iload_n 2, 1, 2, 0, 0)] (pc1 := 20) (lo1 := [some (.ref 1), some (.int (nI l)), some (.int (nI x)), none]) (st1 := [.int (nI x), .ref 1]) (μ1 := μ) (vc := True) rfl (by decide +kernel) rfl trivial ?_
  refine pm_callV2 mi_X5_walkServing (ix := 97) (b := 1) (ci := 5) (kc2 := 0) (ks2 := 0) (As := [.int (nI x)]) (rest := []) (c_X5_walkServing (h := x) μ hR hG hx) cal_X5_walkServing lk5_97 (by decide +kernel) rfl (by decide +kernel) rfl rfl rfl rfl (Nat.le_of_ble_eq_true rfl) (by decide) (by decide) (fun _ _ h9 => h9.elim) ?_
  rintro _ _ ⟨rfl, h9⟩; rw [h9]; clear h9
  rw [eu]
  show pm_V _ _ _ _ 23 _ [.int (nI u)] _
  refine pm_bl [(.bipush 16, 2, 0, 0, 16), (.imul, 1, 0, 0, 0), (.aload_n 0, 1, 0, 0, 0), (.iload_n 2, 1, 2, 0, 0)] (pc1 := 28) (lo1 := [some (.ref 1), some (.int (nI l)), some (.int (nI x)), none]) (st1 := [.int (nI x), .ref 1, .int ((nI u) * 16)]) (μ1 := μ) (vc := True) rfl (by decide +kernel) rfl trivial ?_
  refine pm_callV2 mi_X5_stopPosition (ix := 101) (b := 1) (ci := 5) (kc2 := 0) (ks2 := 0) (As := [.int (nI x)]) (rest := [.int ((nI u) * 16)]) (c_X5_stopPosition (h := x) μ hR hG hx) cal_X5_stopPosition lk5_101 (by decide +kernel) rfl (by decide +kernel) rfl rfl rfl rfl (Nat.le_of_ble_eq_true rfl) (by decide) (by decide) (fun _ _ h9 => h9.elim) ?_
  rintro _ _ ⟨rfl, h9⟩; rw [h9]; clear h9
  rw [show lr_spo g x = nI (lr_spn g x) from by unfold lr_spo; rw [eu, if_neg (lr_ne1 (by omega)), lr_sp_n]]
  show pm_V _ _ _ _ 31 _ [.int (nI (lr_spn g x)), .int ((nI u) * 16)] _
  refine pm_bl [(.iadd, 1, 0, 0, 0), (.istore_n 3, 1, 3, 0, 0), (.iload_n 3, 1, 3, 0, 0), (.bipush 10, 2, 0, 0, 10), (.imul, 1, 0, 0, 0), (.bipush 9, 2, 0, 0, 9), (.iadd, 1, 0, 0, 0), (.aload_n 0, 1, 0, 0, 0), (.getfield 49, 3, 5, 5, 0), (.getfield 134, 3, 4, 3, 0), (.iload_n 1, 1, 1, 0, 0), (.iaload, 1, 0, 0, 0), (.isub, 1, 0, 0, 0), (.istore_n 3, 1, 3, 0, 0), (.iload_n 3, 1, 3, 0, 0), (.bipush 30, 2, 0, 0, 30), (.imul, 1, 0, 0, 0), (.iload_n 1, 1, 1, 0, 0), (.iadd, 1, 0, 0, 0)] (pc1 := 57) (lo1 := [some (.ref 1), some (.int (nI l)), some (.int (nI x)), some (.int ((((((nI u) * 16) + (nI (lr_spn g x))) * 10) + 9) - (μ.1 28 (nI l).toNatClampNeg)))]) (st1 := [.int ((((((((nI u) * 16) + (nI (lr_spn g x))) * 10) + 9) - (μ.1 28 (nI l).toNatClampNeg)) * 30) + (nI l))]) (μ1 := μ) (vc := vp_in (nI l) 30 ∧ True) rfl (by decide +kernel) rfl ⟨(vp_in_nI (by omega) (by omega)), trivial⟩ ?_
  first | rw [nI_clamp (n := l) (by omega), lr_rlwe hR hl, ew] | rw [lr_rlwe hR hl, ew]
  exact pm_iret (ty := .int) rfl rfl (by decide) (by decide) (by decide +kernel) (⟨by
    congr 2
    unfold lr_ky
    rw [dx, hsv, hw9]
    rw [show (16 : Int32) = nI 16 from rfl, show (10 : Int32) = nI 10 from rfl, show (9 : Int32) = nI 9 from rfl, show (30 : Int32) = nI 30 from rfl, nI_mul, nI_add, nI_mul, nI_add, nI_subN (by omega), nI_mul, nI_add], rfl⟩)
set_option maxHeartbeats 4000000 in
set_option maxRecDepth 100000 in
theorem c_X5_handOver {g : Nat → Int32} {l : Nat} (μ : pm_Mm) (hR : lr_Rel μ.1 1 g) (hG : lr_G g) (hN : lr_N g) (hl : l < lr_n g 289) (hD : lr_n g 1 < 30) : pm_CT mi_X5_handOver [.ref 1, .int (nI l)] μ (fun v μ2 => v = none ∧ lr_fr9 μ μ2 ∧ lr_Rel μ2.1 1 (lr_gdel g l (nI (lr_n g 0)) (lr_hoF g l) (lr_siF g l))) pm_NX := by
  refine pm_CT_of (lo := [some (.ref 1), some (.int (nI l)), none, none]) (by decide +kernel) rfl rfl (by intro v hv; simp at hv; rcases hv with rfl | rfl <;> rfl) (Nat.le_of_ble_eq_true rfl) rfl ?_
  have hm1 := lr_mh hG; have hm2 := lr_mw hG; have hm3 := lr_mp hG; have hm4 := lr_mr hG; have hm5 := lr_ma hG; have hm6 := lr_ml hG
  obtain ⟨p, hp⟩ : ∃ p, lr_n g (290 + 11 * l) = p := ⟨_, rfl⟩
  have hP := lr_Lc.p hG hl
  rw [hp] at hP
  have hP1 := hP.1; have hP2 := hP.2
  have hT := lr_gT hG
  obtain ⟨-, -, ⟨re, er, hre⟩, -⟩ := lr_Lc_of hG hl
  have hho : lr_hoF g l = lr_we g p (nI (lr_n g 0)) := by unfold lr_hoF; rw [hp, hT]
  have hbe : lr_be (nI l) (nI (lr_n g 289)) = true := by rw [lr_be_nI (by omega) (by omega)]; exact decide_eq_true hl
  refine pm_bl [(.iload_n 1, 1, 1, 0, 0), (.aload_n 0, 1, 0, 0, 0), (.getfield 49, 3, 5, 5, 0), (.getfield 158, 3, 4, 0, 0)] (pc1 := 8) (lo1 := [some (.ref 1), some (.int (nI l)), none, none]) (st1 := [.int (μ.1 26 0), .int (nI l)]) (μ1 := μ) (vc := True) rfl (by decide +kernel) rfl trivial ?_
  rw [lr_rNl hR, lr_gl hG]
  refine pm_callSN2 mi_X9_isBelow (ix := 83) (host := RX9) (kc2 := 0) (ks2 := 0) (As := [.int (nI l), .int (nI (lr_n g 289))]) (rest := []) (c_X9_isBelow (nI l) (nI (lr_n g 289)) μ) cal_X9_isBelow (by decide +kernel) (by decide +kernel) (by decide +kernel) rfl rfl (Nat.le_of_ble_eq_true rfl) (by decide) (by decide) ?_
  rintro _ _ ⟨rfl, h9⟩; rw [h9]; clear h9
  rw [hbe]
  show pm_V _ _ _ _ 11 _ [.int 1] _
  refine pm_if_ne (off := 4) 15 (by decide +kernel) (by decide) (fun _ => ?_) (fun h9 => absurd h9 (by decide))
  refine pm_bl [(.aload_n 0, 1, 0, 0, 0), (.getfield 49, 3, 5, 5, 0), (.getfield 128, 3, 4, 2, 0), (.iload_n 1, 1, 1, 0, 0), (.iaload, 1, 0, 0, 0), (.istore_n 2, 1, 2, 0, 0), (.aload_n 0, 1, 0, 0, 0), (.getfield 49, 3, 5, 5, 0), (.getfield 140, 3, 4, 4, 0), (.iload_n 1, 1, 1, 0, 0), (.iaload, 1, 0, 0, 0), (.iconst 1, 1, 0, 0, 1)] (pc1 := 35) (lo1 := [some (.ref 1), some (.int (nI l)), some (.int (μ.1 27 (nI l).toNatClampNeg)), none]) (st1 := [.int 1, .int (μ.1 29 (nI l).toNatClampNeg)]) (μ1 := μ) (vc := vp_in (nI l) 30 ∧ vp_in (nI l) 30 ∧ True) rfl (by decide +kernel) rfl ⟨(vp_in_nI (by omega) (by omega)), (vp_in_nI (by omega) (by omega)), trivial⟩ ?_
  first | rw [nI_clamp (n := l) (by omega), lr_rlpe hR hl, hP1] | rw [lr_rlpe hR hl, hP1]
  first | rw [nI_clamp (n := l) (by omega), lr_rlre hR (i := l) hl] | rw [lr_rlre hR (i := l) hl]
  refine pm_icmp_ne (off := 15) 50 (by decide +kernel) (by decide) (fun (h35 : ¬ (g (292 + 11 * l)) = 1) => ?_) (fun (h35 : (g (292 + 11 * l)) = 1) => ?_)
  · refine pm_bl [(.iconst (-1), 1, 0, 0, (-1)), (.istore_n 3, 1, 3, 0, 0), (.aload_n 0, 1, 0, 0, 0), (.getfield 49, 3, 5, 5, 0), (.iload_n 1, 1, 1, 0, 0), (.aload_n 0, 1, 0, 0, 0), (.getfield 53, 3, 5, 6, 0)] (pc1 := 61) (lo1 := [some (.ref 1), some (.int (nI l)), some (.int (nI p)), some (.int (-1))]) (st1 := [.int (μ.1 1 6), .int (nI l), .ref 26]) (μ1 := μ) (vc := True) rfl (by decide +kernel) rfl trivial ?_
    rw [lr_rT hR, lr_gT hG]
    refine pm_bl [(.aload_n 0, 1, 0, 0, 0), (.iload_n 2, 1, 2, 0, 0), (.aload_n 0, 1, 0, 0, 0), (.getfield 53, 3, 5, 6, 0)] (pc1 := 67) (lo1 := [some (.ref 1), some (.int (nI l)), some (.int (nI p)), some (.int (-1))]) (st1 := [.int (μ.1 1 6), .int (nI p), .ref 1, .int (nI (lr_n g 0)), .int (nI l), .ref 26]) (μ1 := μ) (vc := True) rfl (by decide +kernel) rfl trivial ?_
    rw [lr_rT hR, lr_gT hG]
    refine pm_callV2 mi_X5_endOfWay (ix := 119) (b := 1) (ci := 5) (kc2 := 0) (ks2 := 0) (As := [.int (nI p), .int (nI (lr_n g 0))]) (rest := [.int (nI (lr_n g 0)), .int (nI l), .ref 26]) (c_X5_endOfWay (p := p) (nI (lr_n g 0)) μ hR hG hP2) cal_X5_endOfWay lk5_119 (by decide +kernel) rfl (by decide +kernel) rfl rfl rfl rfl (Nat.le_of_ble_eq_true rfl) (by decide) (by decide) (fun _ _ h9 => h9.elim) ?_
    rintro _ _ ⟨rfl, h9⟩; rw [h9]; clear h9
    show pm_V _ _ _ _ 70 _ [.int (lr_we g p (nI (lr_n g 0))), .int (nI (lr_n g 0)), .int (nI l), .ref 26] _
    refine pm_bl [(.iload_n 3, 1, 3, 0, 0)] (pc1 := 71) (lo1 := [some (.ref 1), some (.int (nI l)), some (.int (nI p)), some (.int (-1))]) (st1 := [.int (-1), .int (lr_we g p (nI (lr_n g 0))), .int (nI (lr_n g 0)), .int (nI l), .ref 26]) (μ1 := μ) (vc := True) rfl (by decide +kernel) rfl trivial ?_
    refine pm_callV2 mi_X4_deliver (ix := 180) (b := 26) (ci := 4) (kc2 := 0) (ks2 := 0) (As := [.int (nI l), .int (nI (lr_n g 0)), .int (lr_we g p (nI (lr_n g 0))), .int (-1)]) (rest := []) (c_X4_deliver9 (j := l) (nI (lr_n g 0)) (lr_we g p (nI (lr_n g 0))) (-1) μ hR hG.B hl (lr_gD hG) hD (fun i d hi he h30 => Nat.ne_of_lt (hN.1 i d hi he h30))) cal_X4_deliver lk5_180 (by decide +kernel) rfl (by decide +kernel) rfl rfl rfl rfl (Nat.le_of_ble_eq_true rfl) (by decide) (by decide) (fun _ _ h9 => h9.elim) ?_
    rintro _ μ3 ⟨h39, rfl, hf, hr⟩
    show pm_V _ _ _ _ 74 _ [] _
    exact pm_vret rfl (by decide) (by decide) (by decide +kernel) (⟨rfl, ⟨hf, h39⟩, by unfold lr_siF; rw [hho]; first | (rw [if_neg (by rw [h35]; decide), hp, hT]; exact hr) | (rw [if_pos (by rw [er] at h35 ⊢; have : re ≠ 1 := fun e => h35 (by rw [e]; rfl); rw [show re = 0 from by omega]; rfl)]; exact hr)⟩)
  · refine pm_bl [(.aload_n 0, 1, 0, 0, 0), (.iload_n 2, 1, 2, 0, 0), (.aload_n 0, 1, 0, 0, 0), (.getfield 53, 3, 5, 6, 0)] (pc1 := 44) (lo1 := [some (.ref 1), some (.int (nI l)), some (.int (nI p)), none]) (st1 := [.int (μ.1 1 6), .int (nI p), .ref 1]) (μ1 := μ) (vc := True) rfl (by decide +kernel) rfl trivial ?_
    rw [lr_rT hR, lr_gT hG]
    refine pm_callV2 mi_X5_whoSigns (ix := 143) (b := 1) (ci := 5) (kc2 := 0) (ks2 := 0) (As := [.int (nI p), .int (nI (lr_n g 0))]) (rest := []) (c_X5_whoSigns (p := p) (nI (lr_n g 0)) μ hR hG hP2) cal_X5_whoSigns lk5_143 (by decide +kernel) rfl (by decide +kernel) rfl rfl rfl rfl (Nat.le_of_ble_eq_true rfl) (by decide) (by decide) (fun _ _ h9 => h9.elim) ?_
    rintro _ _ ⟨rfl, h9⟩; rw [h9]; clear h9
    show pm_V _ _ _ _ 47 _ [.int (lr_sg g p (nI (lr_n g 0)))] _
    refine pm_bl [(.goto 4, 3, 51, 0, 0), (.istore_n 3, 1, 3, 0, 0), (.aload_n 0, 1, 0, 0, 0), (.getfield 49, 3, 5, 5, 0), (.iload_n 1, 1, 1, 0, 0), (.aload_n 0, 1, 0, 0, 0), (.getfield 53, 3, 5, 6, 0)] (pc1 := 61) (lo1 := [some (.ref 1), some (.int (nI l)), some (.int (nI p)), some (.int (lr_sg g p (nI (lr_n g 0))))]) (st1 := [.int (μ.1 1 6), .int (nI l), .ref 26]) (μ1 := μ) (vc := True) rfl (by decide +kernel) rfl trivial ?_
    rw [lr_rT hR, lr_gT hG]
    refine pm_bl [(.aload_n 0, 1, 0, 0, 0), (.iload_n 2, 1, 2, 0, 0), (.aload_n 0, 1, 0, 0, 0), (.getfield 53, 3, 5, 6, 0)] (pc1 := 67) (lo1 := [some (.ref 1), some (.int (nI l)), some (.int (nI p)), some (.int (lr_sg g p (nI (lr_n g 0))))]) (st1 := [.int (μ.1 1 6), .int (nI p), .ref 1, .int (nI (lr_n g 0)), .int (nI l), .ref 26]) (μ1 := μ) (vc := True) rfl (by decide +kernel) rfl trivial ?_
    rw [lr_rT hR, lr_gT hG]
    refine pm_callV2 mi_X5_endOfWay (ix := 119) (b := 1) (ci := 5) (kc2 := 0) (ks2 := 0) (As := [.int (nI p), .int (nI (lr_n g 0))]) (rest := [.int (nI (lr_n g 0)), .int (nI l), .ref 26]) (c_X5_endOfWay (p := p) (nI (lr_n g 0)) μ hR hG hP2) cal_X5_endOfWay lk5_119 (by decide +kernel) rfl (by decide +kernel) rfl rfl rfl rfl (Nat.le_of_ble_eq_true rfl) (by decide) (by decide) (fun _ _ h9 => h9.elim) ?_
    rintro _ _ ⟨rfl, h9⟩; rw [h9]; clear h9
    show pm_V _ _ _ _ 70 _ [.int (lr_we g p (nI (lr_n g 0))), .int (nI (lr_n g 0)), .int (nI l), .ref 26] _
    refine pm_bl [(.iload_n 3, 1, 3, 0, 0)] (pc1 := 71) (lo1 := [some (.ref 1), some (.int (nI l)), some (.int (nI p)), some (.int (lr_sg g p (nI (lr_n g 0))))]) (st1 := [.int (lr_sg g p (nI (lr_n g 0))), .int (lr_we g p (nI (lr_n g 0))), .int (nI (lr_n g 0)), .int (nI l), .ref 26]) (μ1 := μ) (vc := True) rfl (by decide +kernel) rfl trivial ?_
    refine pm_callV2 mi_X4_deliver (ix := 180) (b := 26) (ci := 4) (kc2 := 0) (ks2 := 0) (As := [.int (nI l), .int (nI (lr_n g 0)), .int (lr_we g p (nI (lr_n g 0))), .int (lr_sg g p (nI (lr_n g 0)))]) (rest := []) (c_X4_deliver9 (j := l) (nI (lr_n g 0)) (lr_we g p (nI (lr_n g 0))) (lr_sg g p (nI (lr_n g 0))) μ hR hG.B hl (lr_gD hG) hD (fun i d hi he h30 => Nat.ne_of_lt (hN.1 i d hi he h30))) cal_X4_deliver lk5_180 (by decide +kernel) rfl (by decide +kernel) rfl rfl rfl rfl (Nat.le_of_ble_eq_true rfl) (by decide) (by decide) (fun _ _ h9 => h9.elim) ?_
    rintro _ μ3 ⟨h39, rfl, hf, hr⟩
    show pm_V _ _ _ _ 74 _ [] _
    exact pm_vret rfl (by decide) (by decide) (by decide +kernel) (⟨rfl, ⟨hf, h39⟩, by unfold lr_siF; rw [hho]; first | (rw [if_neg (by rw [h35]; decide), hp, hT]; exact hr) | (rw [if_pos (by rw [er] at h35 ⊢; have : re ≠ 1 := fun e => h35 (by rw [e]; rfl); rw [show re = 0 from by omega]; rfl)]; exact hr)⟩)
theorem lr_ky_cg {g g2 : Nat → Int32} (hG : lr_G g) (hS : lr_Sm g g2) (h0 : g2 0 = g 0) {l : Nat} (hl : l < lr_n g 289) (he : lr_Le g g2 l) : lr_ky g2 l = lr_ky g l := by
  have m1 := lr_mh hG
  have e0 := he.at_ (x := 290 + 11 * l) (by omega) (by omega); have e1 := he.at_ (x := 291 + 11 * l) (by omega) (by omega)
  have hP := lr_Lc.p hG hl
  have ep : lr_n g2 (290 + 11 * l) = lr_n g (290 + 11 * l) := by unfold lr_n; rw [e0]
  have ee : lr_end g2 l = lr_end g l := by unfold lr_end; rw [ep, h0, hS.we hG hP.2]
  obtain ⟨x, ex, hx⟩ := lr_we_ok hG hP.2 (g 0)
  have hx2 : lr_end g l = x := by unfold lr_end; rw [ex]; exact nI_clamp (by omega)
  have es : lr_spn g2 x = lr_spn g x := by
    have q := hS.sp hG hx
    rw [lr_sp_n, lr_sp_n] at q
    exact (nI_eq (by have := lr_spn_le g2 x; have := hS.n (x := 2) (by omega) (by omega); omega) (by have := lr_spn_le g x; omega)).mp q
  unfold lr_ky
  rw [ee, hx2, hS.sv hG (by omega), es]
  congr 2
  unfold lr_n; rw [e1]
theorem lr_one_G {g : Nat → Int32} (hG : lr_G g) {l : Nat} (hl : l < lr_n g 289) (hW : g (294 + 11 * l) = 0 → ∃ t, g (297 + 11 * l) = nI t ∧ t ≤ 2) : lr_G (lr_one g l) := by
  have h1 : lr_G (lr_st g l) := by
    unfold lr_st; split
    · rename_i h; exact lr_look_G hG hl (hW h)
    · exact hG
  have en : lr_n (lr_st g l) 289 = lr_n g 289 := by unfold lr_n; rw [lr_st_o (by omega)]
  unfold lr_one lr_rt; split
  · exact h1.ret (by rw [en]; exact hl) (y := 4) (by omega)
  · exact h1
theorem lr_pc_G {g : Nat → Int32} (hG : lr_G g) (hW : lr_W g) : ∀ k, k ≤ lr_n g 289 → lr_G (lr_pc g k) := by
  intro k
  induction k with
  | zero => intro _; exact hG
  | succ k ih =>
    intro hk
    simp only [lr_pc]
    split
    · exact ih (by omega)
    · refine lr_one_G (ih (by omega)) (by rw [lr_pc_n (by omega)]; omega) (fun h => ?_)
      rw [lr_pc_o k _ (by omega)] at h ⊢
      exact hW k (by omega) h
theorem lr_ord_pw {g : Nat → Int32} {k : Nat} (hk : k ≤ 30) : ((lr_ord g k).map (lr_ky g)).Pairwise (· < ·) := by
  rw [List.pairwise_map]; exact lr_ord_srt hk
theorem lr_getD_map {K : Nat → Nat} : ∀ (S : List Nat) (i : Nat), i < S.length → (S.map K).getD i 0 = K (S.getD i 0) ∧ S.getD i 0 ∈ S := by
  intro S
  induction S with
  | nil => intro i h; simp at h
  | cons s S ih =>
    intro i h
    cases i with
    | zero => exact ⟨rfl, List.mem_cons_self ..⟩
    | succ i =>
      rw [List.length_cons] at h
      have q := ih i (by omega)
      exact ⟨q.1, List.mem_cons_of_mem _ q.2⟩
theorem lr_ky_lt {g : Nat → Int32} (hG : lr_G g) {l : Nat} (hl : l < lr_n g 289) : lr_ky g l < 100000 := by
  have m1 := lr_mh hG; have m3 := lr_mw hG; have m6 := lr_ml hG
  have h1 := lr_spn_le g (lr_end g l)
  have h2 : (lr_sv g (lr_end g l)).toNatClampNeg ≤ 10 := by
    rcases lr_sv_ok g (lr_end g l) with e | ⟨u, e, hu⟩
    · rw [e]; decide
    · rw [e, nI_clamp (by omega)]; omega
  unfold lr_ky; omega
theorem lr_oc_ok (g : Nat → Int32) (l : Nat) (d : Int32) : lr_oc g l d = 0 ∨ lr_oc g l d = 1 ∨ lr_oc g l d = 2 ∨ lr_oc g l d = 3 ∨ lr_oc g l d = 5 := by
  unfold lr_oc
  repeat' split
  all_goals simp
theorem lr_Rel9 {μ μ2 : pm_Mm} {g : Nat → Int32} (hf : ∀ i, i ≠ 39 → μ2.1 i = μ.1 i) (hR : lr_Rel μ.1 1 g) : lr_Rel μ2.1 1 g := by
  unfold lr_Rel lr_Rh lr_Rp lr_Rw lr_Rr lr_Ra lr_Rl at hR ⊢
  simp only [Nat.reduceAdd] at hR ⊢
  rw [hf 1 (by decide), hf 2 (by decide), hf 3 (by decide), hf 4 (by decide), hf 5 (by decide), hf 6 (by decide), hf 7 (by decide), hf 8 (by decide), hf 9 (by decide), hf 10 (by decide), hf 11 (by decide), hf 12 (by decide), hf 13 (by decide), hf 14 (by decide), hf 15 (by decide), hf 16 (by decide), hf 17 (by decide), hf 18 (by decide), hf 19 (by decide), hf 20 (by decide), hf 21 (by decide), hf 22 (by decide), hf 23 (by decide), hf 24 (by decide), hf 25 (by decide), hf 26 (by decide), hf 27 (by decide), hf 28 (by decide), hf 29 (by decide), hf 30 (by decide), hf 31 (by decide), hf 32 (by decide), hf 33 (by decide), hf 34 (by decide), hf 35 (by decide), hf 36 (by decide), hf 37 (by decide), hf 38 (by decide)]
  exact hR
set_option maxHeartbeats 4000000 in
set_option maxRecDepth 100000 in
theorem s_X5_endDay1 {g : Nat → Int32} {k n : Nat} {L : List Nat} (P : Option Value → pm_Mm → Prop) (μ : pm_Mm) (hR : lr_Rel μ.1 1 g) (hG : lr_G g) (hk : k < lr_n g 289) (hn : n = L.length) (hL : n < 30) (hb : ∀ i, i < n → L.getD i 0 < 2 ^ 31) (hs : L.Pairwise (· < ·)) (hA : lr_Ar (μ.1 39) L) (hW : g (294 + 11 * k) = 0 → ∃ t, g (297 + 11 * k) = nI t ∧ t ≤ 2) (K1 : lr_due g k = true → ∀ μ2, lr_fr μ μ2 → lr_Rel μ2.1 1 g → lr_Ar (μ2.1 39) (lr_inN (lr_ky g k) L) → pm_V mi_X5_endDay (P, pm_NX, fun _ _ _ => True) 0 0 4 [some (.ref 1), some (.int (nI (n + 1))), some (.int (nI (k + 1))), none] [] μ2) (K2 : lr_due g k = false → ∀ μ2, lr_fr9 μ μ2 → lr_Rel μ2.1 1 (lr_one g k) → pm_V mi_X5_endDay (P, pm_NX, fun _ _ _ => True) 0 0 4 [some (.ref 1), some (.int (nI n)), some (.int (nI (k + 1))), none] [] μ2) : pm_V mi_X5_endDay (P, pm_NX, fun _ _ _ => True) 0 0 4 [some (.ref 1), some (.int (nI n)), some (.int (nI k)), none] [] μ := by
  have hm1 := lr_mh hG; have hm2 := lr_mw hG; have hm3 := lr_mp hG; have hm4 := lr_mr hG; have hm5 := lr_ma hG; have hm6 := lr_ml hG
  have hT := lr_gT hG
  refine pm_bl [(.iload_n 2, 1, 2, 0, 0), (.aload_n 0, 1, 0, 0, 0), (.getfield 49, 3, 5, 5, 0), (.getfield 158, 3, 4, 0, 0)] (pc1 := 12) (lo1 := [some (.ref 1), some (.int (nI n)), some (.int (nI k)), none]) (st1 := [.int (μ.1 26 0), .int (nI k)]) (μ1 := μ) (vc := True) rfl (by decide +kernel) rfl trivial ?_
  rw [lr_rNl hR, lr_gl hG]
  refine pm_icmp_ge (off := 59) 71 (by decide +kernel) (by decide) (fun (h9 : (nI (lr_n g 289)) ≤ (nI k)) => absurd h9 (nI_ge (by omega) (by omega))) (fun (h12 : ¬ ((nI (lr_n g 289)) ≤ (nI k))) => ?_)
  refine pm_bl [(.aload_n 0, 1, 0, 0, 0), (.getfield 49, 3, 5, 5, 0), (.getfield 159, 3, 4, 6, 0), (.iload_n 2, 1, 2, 0, 0), (.iaload, 1, 0, 0, 0)] (pc1 := 24) (lo1 := [some (.ref 1), some (.int (nI n)), some (.int (nI k)), none]) (st1 := [.int (μ.1 31 (nI k).toNatClampNeg)]) (μ1 := μ) (vc := vp_in (nI k) 30 ∧ True) rfl (by decide +kernel) rfl ⟨(vp_in_nI (by omega) (by omega)), trivial⟩ ?_
  first | rw [nI_clamp (n := k) (by omega), lr_rlst hR (i := k) hk] | rw [lr_rlst hR (i := k) hk]
  refine pm_if_eq (off := 6) 30 (by decide +kernel) (by decide) (fun (h24 : (g (294 + 11 * k)) = 0) => ?_) (fun (h24 : ¬ ((g (294 + 11 * k)) = 0)) => ?_)
  · refine pm_bl [(.aload_n 0, 1, 0, 0, 0), (.iload_n 2, 1, 2, 0, 0), (.aload_n 0, 1, 0, 0, 0), (.getfield 53, 3, 5, 6, 0)] (pc1 := 36) (lo1 := [some (.ref 1), some (.int (nI n)), some (.int (nI k)), none]) (st1 := [.int (μ.1 1 6), .int (nI k), .ref 1]) (μ1 := μ) (vc := True) rfl (by decide +kernel) rfl trivial ?_
    rw [lr_rT hR, lr_gT hG]
    refine pm_callV2 mi_X5_outcome (ix := 152) (b := 1) (ci := 5) (kc2 := 0) (ks2 := 0) (As := [.int (nI k), .int (nI (lr_n g 0))]) (rest := []) (c_X5_outcome (j := k) (nI (lr_n g 0)) μ hR hG hk) cal_X5_outcome lk5_152 (by decide +kernel) rfl (by decide +kernel) rfl rfl rfl rfl (Nat.le_of_ble_eq_true rfl) (by decide) (by decide) (fun _ _ h9 => h9.elim) ?_
    rintro _ _ ⟨rfl, h9⟩; rw [h9]; clear h9
    show pm_V _ _ _ _ 39 _ [.int (lr_oc g k (nI (lr_n g 0)))] _
    refine pm_bl [(.istore_n 3, 1, 3, 0, 0)] (pc1 := 40) (lo1 := [some (.ref 1), some (.int (nI n)), some (.int (nI k)), some (.int (lr_oc g k (nI (lr_n g 0))))]) (st1 := []) (μ1 := μ) (vc := True) rfl (by decide +kernel) rfl trivial ?_
    have hoc : ∃ r, lr_oc g k (nI (lr_n g 0)) = r := ⟨_, rfl⟩
    obtain ⟨r, hr0⟩ := hoc
    rw [hr0]
    have hw : g (294 + 11 * k) = 0 := by first | exact h24 | exact Classical.byContradiction h24
    by_cases h5 : r = 5
    · subst h5
      have hd : lr_due g k = true := by unfold lr_due; rw [decide_eq_true hw, hT, decide_eq_true hr0]; rfl
      refine pm_bl [(.iload_n 3, 1, 3, 0, 0), (.iconst 5, 1, 0, 0, 5)] (pc1 := 42) (lo1 := [some (.ref 1), some (.int (nI n)), some (.int (nI k)), some (.int 5)]) (st1 := [.int 5, .int 5]) (μ1 := μ) (vc := True) rfl (by decide +kernel) rfl trivial ?_
      refine pm_icmp_ne (off := 17) 59 (by decide +kernel) (by decide) (fun h9 => absurd h9 (by decide)) (fun _ => ?_)
      refine pm_bl [(.aload_n 0, 1, 0, 0, 0), (.aload_n 0, 1, 0, 0, 0), (.iload_n 2, 1, 2, 0, 0)] (pc1 := 48) (lo1 := [some (.ref 1), some (.int (nI n)), some (.int (nI k)), some (.int 5)]) (st1 := [.int (nI k), .ref 1, .ref 1]) (μ1 := μ) (vc := True) rfl (by decide +kernel) rfl trivial ?_
      refine pm_callV2 mi_X5_roundKey (ix := 162) (b := 1) (ci := 5) (kc2 := 0) (ks2 := 0) (As := [.int (nI k)]) (rest := [.ref 1]) (c_X5_roundKey (l := k) μ hR hG hk hd) cal_X5_roundKey lk5_162 (by decide +kernel) rfl (by decide +kernel) rfl rfl rfl rfl (Nat.le_of_ble_eq_true rfl) (by decide) (by decide) (fun _ _ h9 => h9.elim) ?_
      rintro _ _ ⟨rfl, h9⟩; rw [h9]; clear h9
      show pm_V _ _ _ _ 51 _ [.int (nI (lr_ky g k)), .ref 1] _
      refine pm_bl [(.iload_n 1, 1, 1, 0, 0)] (pc1 := 52) (lo1 := [some (.ref 1), some (.int (nI n)), some (.int (nI k)), some (.int 5)]) (st1 := [.int (nI n), .int (nI (lr_ky g k)), .ref 1]) (μ1 := μ) (vc := True) rfl (by decide +kernel) rfl trivial ?_
      refine pm_callV2 mi_X5_insertSorted (ix := 165) (b := 1) (ci := 5) (kc2 := 0) (ks2 := 0) (As := [.int (nI (lr_ky g k)), .int (nI n)]) (rest := []) (c_X5_insertSorted (L := L) (k := lr_ky g k) (n := n) hn hL (by have := lr_ky_lt hG hk; omega) hb hs μ hA) cal_X5_insertSorted lk5_165 (by decide +kernel) rfl (by decide +kernel) rfl rfl rfl rfl (Nat.le_of_ble_eq_true rfl) (by decide) (by decide) (fun _ _ h9 => h9.elim) ?_
      rintro _ μ3 ⟨rfl, hf, h2, hA3⟩
      show pm_V _ _ _ _ 55 _ [.int (nI (L.length + 1))] _
      refine pm_bl [(.istore_n 1, 1, 1, 0, 0), (.goto 9, 3, 65, 0, 0), (.iinc 2 1, 3, 2, 0, 1), (.goto (-64), 3, 4, 0, 0)] (pc1 := 4) (lo1 := [some (.ref 1), some (.int (nI (L.length + 1))), some (.int ((nI k) + 1)), some (.int 5)]) (st1 := []) (μ1 := μ3) (vc := True) rfl (by decide +kernel) rfl trivial ?_
      rw [nI_1, ← hn]
      refine pm_V.drop (lo' := [some (.ref 1), some (.int (nI (n + 1))), some (.int (nI (k + 1))), none]) ⟨rfl, rfl, rfl, trivial⟩ (K1 hd μ3 ⟨fun i hi => hf i (by omega), h2⟩ ?_ hA3)
      exact lr_Rel9 hf hR
    · have hd : lr_due g k = false := by unfold lr_due; rw [hT, hr0, decide_eq_false h5, Bool.and_false]
      have hoc := lr_oc_ok g k (nI (lr_n g 0))
      rw [hr0] at hoc
      have kk : ∀ μ2, lr_fr9 μ μ2 → lr_Rel μ2.1 1 (lr_one g k) → pm_V mi_X5_endDay (P, pm_NX, fun _ _ _ => True) 0 0 4 [some (.ref 1), some (.int (nI n)), some (.int (nI (k + 1))), some (.int r)] [] μ2 := fun μ2 h1 h2 => pm_V.drop (lo' := [some (.ref 1), some (.int (nI n)), some (.int (nI (k + 1))), none]) ⟨rfl, rfl, rfl, trivial⟩ (K2 hd μ2 h1 h2)
      have happ : pm_CT mi_X5_applyFailure [.ref 1, .int (nI k), .int r] μ (fun v μ2 => v = none ∧ lr_fr9 μ μ2 ∧ lr_Rel μ2.1 1 (lr_one g k)) pm_NX := by
        rcases hoc with e | e | e | e | e
        · subst e; exact c_X5_applyFailure_0 μ hR hG hk hw (by rw [hT]; exact hr0)
        · subst e; exact c_X5_applyFailure_1 μ hR hG hk hw (by rw [hT]; exact hr0)
        · subst e; exact c_X5_applyFailure_2 μ hR hG hk hw (by rw [hT]; exact hr0)
        · subst e
          obtain ⟨t, ht, ht2⟩ := hW hw
          exact c_X5_applyFailure_3 μ hR hG hk hw (by rw [hT]; exact hr0) ht ht2
        · exact absurd e h5
      refine pm_bl [(.iload_n 3, 1, 3, 0, 0), (.iconst 5, 1, 0, 0, 5)] (pc1 := 42) (lo1 := [some (.ref 1), some (.int (nI n)), some (.int (nI k)), some (.int r)]) (st1 := [.int 5, .int r]) (μ1 := μ) (vc := True) rfl (by decide +kernel) rfl trivial ?_
      refine pm_icmp_ne (off := 17) 59 (by decide +kernel) (by decide) (fun (h42 : ¬ r = 5) => ?_) (fun (h9 : r = 5) => absurd h9 h5)
      refine pm_bl [(.aload_n 0, 1, 0, 0, 0), (.iload_n 2, 1, 2, 0, 0), (.iload_n 3, 1, 3, 0, 0)] (pc1 := 62) (lo1 := [some (.ref 1), some (.int (nI n)), some (.int (nI k)), some (.int r)]) (st1 := [.int r, .int (nI k), .ref 1]) (μ1 := μ) (vc := True) rfl (by decide +kernel) rfl trivial ?_
      refine pm_callV2 mi_X5_applyFailure (ix := 168) (b := 1) (ci := 5) (kc2 := 0) (ks2 := 0) (As := [.int (nI k), .int r]) (rest := []) happ cal_X5_applyFailure lk5_168 (by decide +kernel) rfl (by decide +kernel) rfl rfl rfl rfl (Nat.le_of_ble_eq_true rfl) (by decide) (by decide) (fun _ _ h9 => h9.elim) ?_
      rintro _ μ3 ⟨rfl, hf, hr⟩
      show pm_V _ _ _ _ 65 _ [] _
      refine pm_bl [(.iinc 2 1, 3, 2, 0, 1), (.goto (-64), 3, 4, 0, 0)] (pc1 := 4) (lo1 := [some (.ref 1), some (.int (nI n)), some (.int ((nI k) + 1)), some (.int r)]) (st1 := []) (μ1 := μ3) (vc := True) rfl (by decide +kernel) rfl trivial ?_
      rw [nI_1]
      exact kk μ3 hf hr
  · refine pm_bl [(.goto 38, 3, 65, 0, 0), (.iinc 2 1, 3, 2, 0, 1), (.goto (-64), 3, 4, 0, 0)] (pc1 := 4) (lo1 := [some (.ref 1), some (.int (nI n)), some (.int ((nI k) + 1)), none]) (st1 := []) (μ1 := μ) (vc := True) rfl (by decide +kernel) rfl trivial ?_
    rw [nI_1]
    exact K2 (lr_due_no h24) μ lr_fr9.rf (by rw [lr_one_no h24]; exact hR)
