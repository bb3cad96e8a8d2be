/-! the model: what a day does to a letter -/
/-- letter l looked at -/
def lr_look (g : Nat → Int32) (l : Nat) : Nat → Int32 :=
  if lr_oc g l (g 0) = 0 then g
  else if lr_oc g l (g 0) = 1 then lr_gret g l (g 0) 1
  else if lr_oc g l (g 0) = 2 then lr_gret g l (g 0) 2
  else if lr_oc g l (g 0) = 5 then lr_gdl0 g l (g 0) (lr_we g (lr_n g (290 + 11 * l)) (g 0)) (if g (292 + 11 * l) = 0 then -1 else lr_sg g (lr_n g (290 + 11 * l)) (g 0))
  else if g (297 + 11 * l) + 1 = 3 then lr_gret (upd g (297 + 11 * l) (g (297 + 11 * l) + 1)) l (g 0) 3
  else upd g (297 + 11 * l) (g (297 + 11 * l) + 1)
theorem lr_Lc.p {g : Nat → Int32} (hG : lr_G g) {l : Nat} (hl : l < lr_n g 289) : g (290 + 11 * l) = nI (lr_n g (290 + 11 * l)) ∧ lr_n g (290 + 11 * l) < lr_n g 35 := by
  obtain ⟨⟨p, hp, hp2⟩, -⟩ := lr_Lc_of hG hl
  have m2 := lr_mp hG
  have e : lr_n g (290 + 11 * l) = p := by unfold lr_n; rw [hp]; exact nI_clamp (by omega)
  rw [e]; exact ⟨hp, hp2⟩
/-- a letter's tries plus one keep a row good, while it waits -/
theorem lr_G.one {g g2 : Nat → Int32} (hG : lr_G g) {l : Nat} (hl : l < lr_n g 289) (ho : ∀ x, (x < 290 + 11 * l ∨ 301 + 11 * l ≤ x) → g2 x = g x) (hc : lr_Lc g2 l) : lr_G g2 := by
  have m6 := lr_ml hG
  have hn : ∀ x, x ≤ 289 → lr_n g2 x = lr_n g x := fun x hx => by unfold lr_n; rw [ho x (by omega)]
  refine hG.lt (fun x h1 h2 => ho x (by omega)) ?_ ?_ ?_ (fun i hi => ?_)
  · rw [hn 0 (by omega), ho 0 (by omega)]; exact hG.1
  · rw [hn 1 (by omega), ho 1 (by omega)]; exact hG.2.1
  · rw [hn 289 (by omega), ho 289 (by omega)]; exact hG.2.2.2.2.2.2.2.1
  · rw [hn 289 (by omega)] at hi
    by_cases e : i = l
    · rw [e]; exact hc
    · exact (lr_Lc_of hG hi).eq (fun c hc => ho _ (by omega)) (hn 35 (by omega)) (by rw [hn 0 (by omega)]; exact Nat.le_refl _)
theorem lr_G.try {g : Nat → Int32} (hG : lr_G g) {l : Nat} (hl : l < lr_n g 289) {t : Nat} (ht : t ≤ 3) : lr_G (upd g (297 + 11 * l) (nI t)) := by
  refine hG.one hl (fun x hx => upd_ne (by omega)) ?_
  have h := lr_Lc_of hG hl
  have hp : lr_n (upd g (297 + 11 * l) (nI t)) 35 = lr_n g 35 := by unfold lr_n; rw [upd_ne (by omega)]
  have h0 : lr_n (upd g (297 + 11 * l) (nI t)) 0 = lr_n g 0 := by unfold lr_n; rw [upd_ne (by omega)]
  unfold lr_Lc at h ⊢
  rw [hp, h0, upd_eq, upd_ne (by omega), upd_ne (by omega), upd_ne (by omega), upd_ne (by omega), upd_ne (by omega), upd_ne (by omega), upd_ne (by omega), upd_ne (by omega), upd_ne (by omega), upd_ne (by omega)]
  exact ⟨h.1, h.2.1, h.2.2.1, h.2.2.2.1, h.2.2.2.2.1, h.2.2.2.2.2.1, h.2.2.2.2.2.2.1, ⟨t, rfl, ht⟩, h.2.2.2.2.2.2.2.2⟩
theorem lr_G.ret {g : Nat → Int32} (hG : lr_G g) {l : Nat} (hl : l < lr_n g 289) {y : Nat} (hy : y ≤ 4) : lr_G (lr_gret g l (g 0) (nI (y + 1) - 1)) := by
  refine hG.one hl (fun x hx => by unfold lr_gret; rw [upd_ne (by omega), upd_ne (by omega), upd_ne (by omega)]) ?_
  have h := lr_Lc_of hG hl; have mT := lr_mT hG
  have hp : lr_n (lr_gret g l (g 0) (nI (y + 1) - 1)) 35 = lr_n g 35 := by unfold lr_n lr_gret; rw [upd_ne (by omega), upd_ne (by omega), upd_ne (by omega)]
  have h0 : lr_n (lr_gret g l (g 0) (nI (y + 1) - 1)) 0 = lr_n g 0 := by unfold lr_n lr_gret; rw [upd_ne (by omega), upd_ne (by omega), upd_ne (by omega)]
  have u : ∀ x, x ≠ 294 + 11 * l → x ≠ 295 + 11 * l → x ≠ 296 + 11 * l → lr_gret g l (g 0) (nI (y + 1) - 1) x = g x := fun x h1 h2 h3 => by unfold lr_gret; rw [upd_ne h3, upd_ne h2, upd_ne h1]
  have u4 : lr_gret g l (g 0) (nI (y + 1) - 1) (294 + 11 * l) = 2 := by unfold lr_gret; rw [upd_ne (by omega), upd_ne (by omega), upd_eq]
  have u5 : lr_gret g l (g 0) (nI (y + 1) - 1) (295 + 11 * l) = g 0 := by unfold lr_gret; rw [upd_ne (by omega), upd_eq]
  have u6 : lr_gret g l (g 0) (nI (y + 1) - 1) (296 + 11 * l) = nI (y + 1) - 1 := by unfold lr_gret; rw [upd_eq]
  unfold lr_Lc at h ⊢
  rw [hp, h0, u4, u5, u6, u (290 + 11 * l) (by omega) (by omega) (by omega), u (291 + 11 * l) (by omega) (by omega) (by omega), u (292 + 11 * l) (by omega) (by omega) (by omega), u (293 + 11 * l) (by omega) (by omega) (by omega), u (297 + 11 * l) (by omega) (by omega) (by omega), u (298 + 11 * l) (by omega) (by omega) (by omega), u (299 + 11 * l) (by omega) (by omega) (by omega), u (300 + 11 * l) (by omega) (by omega) (by omega)]
  obtain ⟨k1, k2, k3, k4, k5, k6, k7, k8, ⟨x8, e8, b8, -⟩, ⟨x9, e9, b9, -⟩, k11⟩ := h
  exact ⟨k1, k2, k3, k4, ⟨2, rfl, by omega⟩, ⟨lr_n g 0 + 1, by rw [nI_pred]; exact lr_gT hG, by omega, fun _ => by omega⟩, ⟨y + 1, rfl, by omega, fun _ => by omega⟩, k8, ⟨x8, e8, b8, fun e => absurd e (by decide)⟩, ⟨x9, e9, b9, fun e => absurd e (by decide)⟩, k11⟩
theorem lr_G.dl0 {g : Nat → Int32} (hG : lr_G g) {l : Nat} (hl : l < lr_n g 289) {h s : Nat} (hh : h < lr_n g 2) (hs : s ≤ 20) (hs2 : g (292 + 11 * l) = 1 → 1 ≤ s) : lr_G (lr_gdl0 g l (g 0) (nI h) (nI s - 1)) := by
  refine hG.one hl (fun x hx => by unfold lr_gdl0; rw [upd_ne (by omega), upd_ne (by omega), upd_ne (by omega), upd_ne (by omega)]) ?_
  have hL := lr_Lc_of hG hl; have mT := lr_mT hG; have m1 := lr_mh hG
  have hp : lr_n (lr_gdl0 g l (g 0) (nI h) (nI s - 1)) 35 = lr_n g 35 := by unfold lr_n lr_gdl0; rw [upd_ne (by omega), upd_ne (by omega), upd_ne (by omega), upd_ne (by omega)]
  have h0 : lr_n (lr_gdl0 g l (g 0) (nI h) (nI s - 1)) 0 = lr_n g 0 := by unfold lr_n lr_gdl0; rw [upd_ne (by omega), upd_ne (by omega), upd_ne (by omega), upd_ne (by omega)]
  have u : ∀ x, x ≠ 294 + 11 * l → x ≠ 295 + 11 * l → x ≠ 298 + 11 * l → x ≠ 299 + 11 * l → lr_gdl0 g l (g 0) (nI h) (nI s - 1) x = g x := fun x h1 h2 h3 h4 => by unfold lr_gdl0; rw [upd_ne h4, upd_ne h3, upd_ne h2, upd_ne h1]
  have u4 : lr_gdl0 g l (g 0) (nI h) (nI s - 1) (294 + 11 * l) = 1 := by unfold lr_gdl0; rw [upd_ne (by omega), upd_ne (by omega), upd_ne (by omega), upd_eq]
  have u5 : lr_gdl0 g l (g 0) (nI h) (nI s - 1) (295 + 11 * l) = g 0 := by unfold lr_gdl0; rw [upd_ne (by omega), upd_ne (by omega), upd_eq]
  have u8 : lr_gdl0 g l (g 0) (nI h) (nI s - 1) (298 + 11 * l) = nI h := by unfold lr_gdl0; rw [upd_ne (by omega), upd_eq]
  have u9 : lr_gdl0 g l (g 0) (nI h) (nI s - 1) (299 + 11 * l) = nI s - 1 := by unfold lr_gdl0; rw [upd_eq]
  unfold lr_Lc at hL ⊢
  rw [hp, h0, u4, u5, u8, u9, u (290 + 11 * l) (by omega) (by omega) (by omega) (by omega), u (291 + 11 * l) (by omega) (by omega) (by omega) (by omega), u (292 + 11 * l) (by omega) (by omega) (by omega) (by omega), u (293 + 11 * l) (by omega) (by omega) (by omega) (by omega), u (296 + 11 * l) (by omega) (by omega) (by omega) (by omega), u (297 + 11 * l) (by omega) (by omega) (by omega) (by omega), u (300 + 11 * l) (by omega) (by omega) (by omega) (by omega)]
  obtain ⟨k1, k2, k3, k4, k5, k6, ⟨x6, e6, b6, -⟩, k8, -, -, k11⟩ := hL
  exact ⟨k1, k2, k3, k4, ⟨1, rfl, by omega⟩, ⟨lr_n g 0 + 1, by rw [nI_pred]; exact lr_gT hG, by omega, fun _ => by omega⟩, ⟨x6, e6, b6, fun e => absurd e (by decide)⟩, k8, ⟨h + 1, by rw [nI_pred], by omega, fun _ => by omega⟩, ⟨s, rfl, hs, fun _ e => hs2 e⟩, k11⟩
set_option maxHeartbeats 4000000 in
set_option maxRecDepth 100000 in
theorem lr_G.try2 {g : Nat → Int32} (hG : lr_G g) {l : Nat} (hl : l < lr_n g 289) (h3 : ∃ t, g (297 + 11 * l) = nI t ∧ t ≤ 2) : lr_G (upd g (297 + 11 * l) (g (297 + 11 * l) + 1)) := by
  obtain ⟨t, e, ht⟩ := h3
  rw [e, nI_1]; exact hG.try hl (by omega)
set_option maxHeartbeats 4000000 in
set_option maxRecDepth 100000 in
theorem lr_sg_ok {g : Nat → Int32} (p : Nat) (d : Int32) (hp : p < lr_n g 35) : lr_sg g p d = -1 ∨ ∃ i, lr_sg g p d = nI i ∧ i < lr_n g 35 := by
  unfold lr_sg
  split
  · exact Or.inr ⟨p, rfl, hp⟩
  · rcases lr_fst_ok (lr_sgc g p (lr_we g p d) d) (lr_n g 35) 0 with e | ⟨i, e, h1, h2, h3⟩
    · exact Or.inl e
    · exact Or.inr ⟨i, e, by omega⟩
set_option maxHeartbeats 4000000 in
set_option maxRecDepth 100000 in
theorem c_X10_looksAt {g : Nat → Int32} {l : Nat} (μ : pm_Mm) (hM : μ.1 48 = g) (hG : lr_G g) (hX : lr_X g) (hl : l < lr_n g 289) (hoc : ∃ t, g (297 + 11 * l) = nI t ∧ t ≤ 2) : pm_CT mi_X10_looksAt [.ref 47, .int (nI l)] μ (fun v μ2 => v = none ∧ lr_fm μ μ2 ∧ μ2.1 48 = lr_look g l) pm_NX := by
  refine pm_CT_of (lo := [some (.ref 47), some (.int (nI l)), none, none]) (by decide +kernel) rfl rfl (by intro v hv; simp at hv; rcases hv with rfl | rfl <;> rfl) (Nat.le_of_ble_eq_true rfl) rfl ?_
  have hm1 := lr_mh hG; have hm2 := lr_mw hG; have hm3 := lr_mp hG; have hm4 := lr_mr hG; have hm5 := lr_ma hG; have hm6 := lr_ml hG
  obtain ⟨p, hp⟩ : ∃ p, lr_n g (290 + 11 * l) = p := ⟨_, rfl⟩
  have hP := lr_Lc.p hG hl
  rw [hp] at hP
  have hP1 := hP.1; have hP2 := hP.2
  have hT := lr_gT hG
  obtain ⟨t, he, ht⟩ := lr_we_ok hG hP2 (nI (lr_n g 0))
  have hsg := lr_sg_ok (g := g) p (nI (lr_n g 0)) hP2
  have hsn : lr_sv g t < 0 ↔ lr_sv g t = -1 := by
    rcases lr_sv_ok g t with e | ⟨v, e, hv⟩
    · rw [e]; decide
    · rw [e]; exact ⟨fun h => absurd h (nI_pos (by omega)), fun h => absurd h (lr_ne1 (by omega))⟩
  have hgn : lr_sg g p (nI (lr_n g 0)) < 0 ↔ lr_sg g p (nI (lr_n g 0)) = -1 := by
    rcases hsg with e | ⟨v, e, hv⟩
    · rw [e]; decide
    · rw [e]; exact ⟨fun h => absurd h (nI_pos (by omega)), fun h => absurd h (lr_ne1 (by omega))⟩
  have et : (lr_we g p (nI (lr_n g 0))).toNatClampNeg = t := by rw [he]; exact nI_clamp (by omega)
  refine pm_bl [(.aload_n 0, 1, 0, 0, 0), (.getfield 7, 3, 10, 0, 0), (.iload_n 1, 1, 1, 0, 0), (.iconst 0, 1, 0, 0, 0)] (pc1 := 6) (lo1 := [some (.ref 47), some (.int (nI l)), none, none]) (st1 := [.int 0, .int (nI l), .ref 48]) (μ1 := μ) (vc := True) rfl (by decide +kernel) rfl trivial ?_
  refine pm_callS2 mi_X10_at (ix := 127) (kc2 := 0) (ks2 := 0) (As := [.int (nI l), .int 0]) (rest := [.ref 48]) (c_X10_at (k := l) (c := 0) (n := 290 + 11 * l) μ (by omega)) cal_X10_at lk10_127 (by decide +kernel) rfl (by decide +kernel) rfl rfl (Nat.le_of_ble_eq_true rfl) (by decide) (by decide) (fun _ _ h9 => h9.elim) ?_
  rintro _ _ ⟨rfl, h9⟩; rw [h9]; clear h9
  show pm_V _ _ _ _ 9 _ [.int (nI (290 + 11 * l)), .ref 48] _
  refine pm_bl [(.iaload, 1, 0, 0, 0)] (pc1 := 10) (lo1 := [some (.ref 47), some (.int (nI l)), none, none]) (st1 := [.int (μ.1 48 (nI (290 + 11 * l)).toNatClampNeg)]) (μ1 := μ) (vc := vp_in (nI (290 + 11 * l)) 620 ∧ True) rfl (by decide +kernel) rfl ⟨(vp_in_nI (by omega) (by omega)), trivial⟩ ?_
  rw [nI_clamp (n := 290 + 11 * l) (by omega), hM, hP1]
  refine pm_bl [(.istore_n 2, 1, 2, 0, 0), (.aload_n 0, 1, 0, 0, 0), (.iload_n 2, 1, 2, 0, 0), (.aload_n 0, 1, 0, 0, 0), (.getfield 7, 3, 10, 0, 0), (.iconst 0, 1, 0, 0, 0), (.iaload, 1, 0, 0, 0)] (pc1 := 19) (lo1 := [some (.ref 47), some (.int (nI l)), some (.int (nI p)), none]) (st1 := [.int (μ.1 48 (0 : Int32).toNatClampNeg), .int (nI p), .ref 47]) (μ1 := μ) (vc := vp_in 0 620 ∧ True) rfl (by decide +kernel) rfl ⟨(by unfold vp_in; decide), trivial⟩ ?_
  rw [show (0 : Int32).toNatClampNeg = 0 from by decide, hM, lr_gT hG]
  refine pm_callV2 mi_X10_wayEnds (ix := 118) (b := 47) (ci := 10) (kc2 := 0) (ks2 := 0) (As := [.int (nI p), .int (nI (lr_n g 0))]) (rest := []) (c_X10_wayEnds (p := p) (d := lr_n g 0) μ hM hG hX rfl (lr_mT hG) hP2) cal_X10_wayEnds lk10_118 (by decide +kernel) rfl (by decide +kernel) rfl rfl rfl rfl (Nat.le_of_ble_eq_true rfl) (by decide) (by decide) (fun _ _ h9 => h9.elim) ?_
  rintro _ _ ⟨rfl, h9⟩; rw [h9]; clear h9
  rw [he]
  show pm_V _ _ _ _ 22 _ [.int (nI t)] _
  refine pm_bl [(.istore_n 3, 1, 3, 0, 0), (.aload_n 0, 1, 0, 0, 0), (.getfield 7, 3, 10, 0, 0), (.bipush 36, 2, 0, 0, 36), (.iconst 4, 1, 0, 0, 4), (.iload_n 2, 1, 2, 0, 0), (.imul, 1, 0, 0, 0), (.iadd, 1, 0, 0, 0), (.iconst 1, 1, 0, 0, 1), (.iadd, 1, 0, 0, 0)] (pc1 := 35) (lo1 := [some (.ref 47), some (.int (nI l)), some (.int (nI p)), some (.int (nI t))]) (st1 := [.int ((36 + (4 * (nI p))) + 1), .ref 48]) (μ1 := μ) (vc := True) rfl (by decide +kernel) rfl trivial ?_
  rw [(show ((36 + (4 * (nI p))) + 1 : Int32) = nI ((36 + (4 * (p))) + 1) from by simp only [nI, Int32.ofNat_add, Int32.ofNat_mul]; rfl).trans (congrArg nI (show (36 + (4 * (p))) + 1 = 37 + 4 * p from by omega))]
  refine pm_bl [(.iaload, 1, 0, 0, 0)] (pc1 := 36) (lo1 := [some (.ref 47), some (.int (nI l)), some (.int (nI p)), some (.int (nI t))]) (st1 := [.int (μ.1 48 (nI (37 + 4 * p)).toNatClampNeg)]) (μ1 := μ) (vc := vp_in (nI (37 + 4 * p)) 620 ∧ True) rfl (by decide +kernel) rfl ⟨(vp_in_nI (by omega) (by omega)), trivial⟩ ?_
  first | rw [nI_clamp (n := 37 + 4 * p) (by omega), hM] | rw [hM]
  refine pm_bl [(.aload_n 0, 1, 0, 0, 0), (.getfield 7, 3, 10, 0, 0), (.iconst 0, 1, 0, 0, 0), (.iaload, 1, 0, 0, 0)] (pc1 := 42) (lo1 := [some (.ref 47), some (.int (nI l)), some (.int (nI p)), some (.int (nI t))]) (st1 := [.int (μ.1 48 (0 : Int32).toNatClampNeg), .int (g (37 + 4 * p))]) (μ1 := μ) (vc := vp_in 0 620 ∧ True) rfl (by decide +kernel) rfl ⟨(by unfold vp_in; decide), trivial⟩ ?_
  rw [show (0 : Int32).toNatClampNeg = 0 from by decide, hM, lr_gT hG]
  refine pm_icmp_lt (off := 4) 46 (by decide +kernel) (by decide) (fun (h42 : (g (37 + 4 * p)) < (nI (lr_n g 0))) => ?_) (fun (h42 : ¬ ((g (37 + 4 * p)) < (nI (lr_n g 0)))) => ?_)
  · refine pm_bl [(.aload_n 0, 1, 0, 0, 0), (.iload_n 3, 1, 3, 0, 0)] (pc1 := 48) (lo1 := [some (.ref 47), some (.int (nI l)), some (.int (nI p)), some (.int (nI t))]) (st1 := [.int (nI t), .ref 47]) (μ1 := μ) (vc := True) rfl (by decide +kernel) rfl trivial ?_
    refine pm_callV2 mi_X10_serving (ix := 78) (b := 47) (ci := 10) (kc2 := 0) (ks2 := 0) (As := [.int (nI t)]) (rest := []) (c_X10_serving (h := t) μ hM hG ht) cal_X10_serving lk10_78 (by decide +kernel) rfl (by decide +kernel) rfl rfl rfl rfl (Nat.le_of_ble_eq_true rfl) (by decide) (by decide) (fun _ _ h9 => h9.elim) ?_
    rintro _ _ ⟨rfl, h9⟩; rw [h9]; clear h9
    show pm_V _ _ _ _ 51 _ [.int (lr_sv g t)] _
    refine pm_if_ge (off := 12) 63 (by decide +kernel) (by decide) (fun (h51 : 0 ≤ (lr_sv g t)) => ?_) (fun (h51 : ¬ (0 ≤ (lr_sv g t))) => ?_)
    · refine pm_bl [(.aload_n 0, 1, 0, 0, 0), (.getfield 7, 3, 10, 0, 0), (.iload_n 1, 1, 1, 0, 0), (.iconst 1, 1, 0, 0, 1)] (pc1 := 69) (lo1 := [some (.ref 47), some (.int (nI l)), some (.int (nI p)), some (.int (nI t))]) (st1 := [.int 1, .int (nI l), .ref 48]) (μ1 := μ) (vc := True) rfl (by decide +kernel) rfl trivial ?_
      refine pm_callS2 mi_X10_at (ix := 127) (kc2 := 0) (ks2 := 0) (As := [.int (nI l), .int 1]) (rest := [.ref 48]) (c_X10_at (k := l) (c := 1) (n := 291 + 11 * l) μ (by omega)) cal_X10_at lk10_127 (by decide +kernel) rfl (by decide +kernel) rfl rfl (Nat.le_of_ble_eq_true rfl) (by decide) (by decide) (fun _ _ h9 => h9.elim) ?_
      rintro _ _ ⟨rfl, h9⟩; rw [h9]; clear h9
      show pm_V _ _ _ _ 72 _ [.int (nI (291 + 11 * l)), .ref 48] _
      refine pm_bl [(.iaload, 1, 0, 0, 0)] (pc1 := 73) (lo1 := [some (.ref 47), some (.int (nI l)), some (.int (nI p)), some (.int (nI t))]) (st1 := [.int (μ.1 48 (nI (291 + 11 * l)).toNatClampNeg)]) (μ1 := μ) (vc := vp_in (nI (291 + 11 * l)) 620 ∧ True) rfl (by decide +kernel) rfl ⟨(vp_in_nI (by omega) (by omega)), trivial⟩ ?_
      first | rw [nI_clamp (n := 291 + 11 * l) (by omega), hM] | rw [hM]
      refine pm_bl [(.aload_n 0, 1, 0, 0, 0), (.getfield 7, 3, 10, 0, 0), (.bipush 36, 2, 0, 0, 36), (.iconst 4, 1, 0, 0, 4), (.iload_n 2, 1, 2, 0, 0), (.imul, 1, 0, 0, 0), (.iadd, 1, 0, 0, 0), (.iconst 2, 1, 0, 0, 2), (.iadd, 1, 0, 0, 0)] (pc1 := 85) (lo1 := [some (.ref 47), some (.int (nI l)), some (.int (nI p)), some (.int (nI t))]) (st1 := [.int ((36 + (4 * (nI p))) + 2), .ref 48, .int (g (291 + 11 * l))]) (μ1 := μ) (vc := True) rfl (by decide +kernel) rfl trivial ?_
      rw [(show ((36 + (4 * (nI p))) + 2 : Int32) = nI ((36 + (4 * (p))) + 2) from by simp only [nI, Int32.ofNat_add, Int32.ofNat_mul]; rfl).trans (congrArg nI (show (36 + (4 * (p))) + 2 = 38 + 4 * p from by omega))]
      refine pm_bl [(.iaload, 1, 0, 0, 0)] (pc1 := 86) (lo1 := [some (.ref 47), some (.int (nI l)), some (.int (nI p)), some (.int (nI t))]) (st1 := [.int (μ.1 48 (nI (38 + 4 * p)).toNatClampNeg), .int (g (291 + 11 * l))]) (μ1 := μ) (vc := vp_in (nI (38 + 4 * p)) 620 ∧ True) rfl (by decide +kernel) rfl ⟨(vp_in_nI (by omega) (by omega)), trivial⟩ ?_
      first | rw [nI_clamp (n := 38 + 4 * p) (by omega), hM] | rw [hM]
      refine pm_icmp_le (off := 12) 98 (by decide +kernel) (by decide) (fun (h86 : (g (291 + 11 * l)) ≤ (g (38 + 4 * p))) => ?_) (fun (h86 : ¬ ((g (291 + 11 * l)) ≤ (g (38 + 4 * p)))) => ?_)
      · refine pm_bl [(.aload_n 0, 1, 0, 0, 0), (.getfield 7, 3, 10, 0, 0), (.iload_n 1, 1, 1, 0, 0), (.iconst 2, 1, 0, 0, 2)] (pc1 := 104) (lo1 := [some (.ref 47), some (.int (nI l)), some (.int (nI p)), some (.int (nI t))]) (st1 := [.int 2, .int (nI l), .ref 48]) (μ1 := μ) (vc := True) rfl (by decide +kernel) rfl trivial ?_
        refine pm_callS2 mi_X10_at (ix := 127) (kc2 := 0) (ks2 := 0) (As := [.int (nI l), .int 2]) (rest := [.ref 48]) (c_X10_at (k := l) (c := 2) (n := 292 + 11 * l) μ (by omega)) cal_X10_at lk10_127 (by decide +kernel) rfl (by decide +kernel) rfl rfl (Nat.le_of_ble_eq_true rfl) (by decide) (by decide) (fun _ _ h9 => h9.elim) ?_
        rintro _ _ ⟨rfl, h9⟩; rw [h9]; clear h9
        show pm_V _ _ _ _ 107 _ [.int (nI (292 + 11 * l)), .ref 48] _
        refine pm_bl [(.iaload, 1, 0, 0, 0)] (pc1 := 108) (lo1 := [some (.ref 47), some (.int (nI l)), some (.int (nI p)), some (.int (nI t))]) (st1 := [.int (μ.1 48 (nI (292 + 11 * l)).toNatClampNeg)]) (μ1 := μ) (vc := vp_in (nI (292 + 11 * l)) 620 ∧ True) rfl (by decide +kernel) rfl ⟨(vp_in_nI (by omega) (by omega)), trivial⟩ ?_
        first | rw [nI_clamp (n := 292 + 11 * l) (by omega), hM] | rw [hM]
        refine pm_if_ne (off := 13) 121 (by decide +kernel) (by decide) (fun (h108 : ¬ (g (292 + 11 * l)) = 0) => ?_) (fun (h108 : (g (292 + 11 * l)) = 0) => ?_)
        · refine pm_bl [(.aload_n 0, 1, 0, 0, 0), (.iload_n 2, 1, 2, 0, 0), (.aload_n 0, 1, 0, 0, 0), (.getfield 7, 3, 10, 0, 0), (.iconst 0, 1, 0, 0, 0), (.iaload, 1, 0, 0, 0)] (pc1 := 129) (lo1 := [some (.ref 47), some (.int (nI l)), some (.int (nI p)), some (.int (nI t))]) (st1 := [.int (μ.1 48 (0 : Int32).toNatClampNeg), .int (nI p), .ref 47]) (μ1 := μ) (vc := vp_in 0 620 ∧ True) rfl (by decide +kernel) rfl ⟨(by unfold vp_in; decide), trivial⟩ ?_
          rw [show (0 : Int32).toNatClampNeg = 0 from by decide, hM, lr_gT hG]
          refine pm_callV2 mi_X10_signs (ix := 124) (b := 47) (ci := 10) (kc2 := 0) (ks2 := 0) (As := [.int (nI p), .int (nI (lr_n g 0))]) (rest := []) (c_X10_signs (p := p) (d := lr_n g 0) μ hM hG hX rfl (lr_mT hG) hP2) cal_X10_signs lk10_124 (by decide +kernel) rfl (by decide +kernel) rfl rfl rfl rfl (Nat.le_of_ble_eq_true rfl) (by decide) (by decide) (fun _ _ h9 => h9.elim) ?_
          rintro _ _ ⟨rfl, h9⟩; rw [h9]; clear h9
          show pm_V _ _ _ _ 132 _ [.int (lr_sg g p (nI (lr_n g 0)))] _
          refine pm_if_lt (off := 23) 155 (by decide +kernel) (by decide) (fun (h132 : (lr_sg g p (nI (lr_n g 0))) < 0) => ?_) (fun (h132 : ¬ ((lr_sg g p (nI (lr_n g 0))) < 0)) => ?_)
          · refine pm_bl [(.aload_n 0, 1, 0, 0, 0), (.getfield 7, 3, 10, 0, 0), (.iload_n 1, 1, 1, 0, 0), (.bipush 7, 2, 0, 0, 7)] (pc1 := 162) (lo1 := [some (.ref 47), some (.int (nI l)), some (.int (nI p)), some (.int (nI t))]) (st1 := [.int 7, .int (nI l), .ref 48]) (μ1 := μ) (vc := True) rfl (by decide +kernel) rfl trivial ?_
            refine pm_callS2 mi_X10_at (ix := 127) (kc2 := 0) (ks2 := 0) (As := [.int (nI l), .int 7]) (rest := [.ref 48]) (c_X10_at (k := l) (c := 7) (n := 297 + 11 * l) μ (by omega)) cal_X10_at lk10_127 (by decide +kernel) rfl (by decide +kernel) rfl rfl (Nat.le_of_ble_eq_true rfl) (by decide) (by decide) (fun _ _ h9 => h9.elim) ?_
            rintro _ _ ⟨rfl, h9⟩; rw [h9]; clear h9
            show pm_V _ _ _ _ 165 _ [.int (nI (297 + 11 * l)), .ref 48] _
            refine pm_bl [(.dup2, 1, 0, 0, 0), (.iaload, 1, 0, 0, 0)] (pc1 := 167) (lo1 := [some (.ref 47), some (.int (nI l)), some (.int (nI p)), some (.int (nI t))]) (st1 := [.int (μ.1 48 (nI (297 + 11 * l)).toNatClampNeg), .int (nI (297 + 11 * l)), .ref 48]) (μ1 := μ) (vc := vp_in (nI (297 + 11 * l)) 620 ∧ True) rfl (by decide +kernel) rfl ⟨(vp_in_nI (by omega) (by omega)), trivial⟩ ?_
            first | rw [nI_clamp (n := 297 + 11 * l) (by omega), hM] | rw [hM]
            refine pm_bl [(.iconst 1, 1, 0, 0, 1), (.iadd, 1, 0, 0, 0), (.iastore, 1, 0, 0, 0), (.aload_n 0, 1, 0, 0, 0), (.getfield 7, 3, 10, 0, 0), (.iload_n 1, 1, 1, 0, 0), (.bipush 7, 2, 0, 0, 7)] (pc1 := 177) (lo1 := [some (.ref 47), some (.int (nI l)), some (.int (nI p)), some (.int (nI t))]) (st1 := [.int 7, .int (nI l), .ref 48]) (μ1 := pm_set μ 48 ((nI (297 + 11 * l)).toNatClampNeg) ((g (297 + 11 * l)) + 1)) (vc := vp_in (nI (297 + 11 * l)) 620 ∧ True) rfl (by decide +kernel) rfl ⟨(vp_in_nI (by omega) (by omega)), trivial⟩ ?_
            try rw [nI_clamp (n := (297 + 11 * l)) (by omega)]
            refine pm_callS2 mi_X10_at (ix := 127) (kc2 := 0) (ks2 := 0) (As := [.int (nI l), .int 7]) (rest := [.ref 48]) (c_X10_at (k := l) (c := 7) (n := 297 + 11 * l) (pm_set μ 48 (297 + 11 * l) ((g (297 + 11 * l)) + 1)) (by omega)) cal_X10_at lk10_127 (by decide +kernel) rfl (by decide +kernel) rfl rfl (Nat.le_of_ble_eq_true rfl) (by decide) (by decide) (fun _ _ h9 => h9.elim) ?_
            rintro _ _ ⟨rfl, h9⟩; rw [h9]; clear h9
            show pm_V _ _ _ _ 180 _ [.int (nI (297 + 11 * l)), .ref 48] _
            refine pm_bl [(.iaload, 1, 0, 0, 0)] (pc1 := 181) (lo1 := [some (.ref 47), some (.int (nI l)), some (.int (nI p)), some (.int (nI t))]) (st1 := [.int ((pm_set μ 48 (297 + 11 * l) ((g (297 + 11 * l)) + 1)).1 48 (nI (297 + 11 * l)).toNatClampNeg)]) (μ1 := pm_set μ 48 (297 + 11 * l) ((g (297 + 11 * l)) + 1)) (vc := vp_in (nI (297 + 11 * l)) 620 ∧ True) rfl (by decide +kernel) rfl ⟨(vp_in_nI (by omega) (by omega)), trivial⟩ ?_
            try rw [nI_clamp (n := 297 + 11 * l) (by omega)]
            refine pm_bl [(.iconst 3, 1, 0, 0, 3)] (pc1 := 182) (lo1 := [some (.ref 47), some (.int (nI l)), some (.int (nI p)), some (.int (nI t))]) (st1 := [.int 3, .int ((pm_set μ 48 (297 + 11 * l) ((g (297 + 11 * l)) + 1)).1 48 (297 + 11 * l))]) (μ1 := pm_set μ 48 (297 + 11 * l) ((g (297 + 11 * l)) + 1)) (vc := True) rfl (by decide +kernel) rfl trivial ?_
            refine pm_icmp_ne (off := 9) 191 (by decide +kernel) (by decide) (fun (h182 : ¬ ((pm_set μ 48 (297 + 11 * l) ((g (297 + 11 * l)) + 1)).1 48 (297 + 11 * l)) = 3) => ?_) (fun (h182 : ((pm_set μ 48 (297 + 11 * l) ((g (297 + 11 * l)) + 1)).1 48 (297 + 11 * l)) = 3) => ?_)
            · exact pm_vret rfl (by decide) (by decide) (by decide +kernel) (⟨rfl, lr_fm.set lr_fm.rf, by have hc : lr_oc g l (nI (lr_n g 0)) = 3 := (by unfold lr_oc; rw [hp, if_neg (Int32.not_le.mpr h42), et, if_neg (show ¬ lr_sv g t = -1 from fun e => absurd h51 (by rw [e]; decide)), if_neg (Int32.not_lt.mpr h86), if_neg h108, if_pos (hgn.mp h132)]); rw [pm_set_at, hM]; unfold lr_look; rw [hT, hc, if_neg (by decide), if_neg (by decide), if_neg (by decide), if_neg (by decide), if_neg (by first | exact h182 | (rw [pm_set_hit] at h182; exact h182))]⟩)
            · refine pm_bl [(.aload_n 0, 1, 0, 0, 0), (.iload_n 1, 1, 1, 0, 0), (.iconst 3, 1, 0, 0, 3)] (pc1 := 188) (lo1 := [some (.ref 47), some (.int (nI l)), some (.int (nI p)), some (.int (nI t))]) (st1 := [.int 3, .int (nI l), .ref 47]) (μ1 := pm_set μ 48 (297 + 11 * l) ((g (297 + 11 * l)) + 1)) (vc := True) rfl (by decide +kernel) rfl trivial ?_
              refine pm_callV2 mi_X10_returns (ix := 137) (b := 47) (ci := 10) (kc2 := 0) (ks2 := 0) (As := [.int (nI l), .int 3]) (rest := []) (c_X10_returns (g := upd g (297 + 11 * l) (g (297 + 11 * l) + 1)) (j := l) 3 _ (by rw [pm_set_at, hM]) (hG.try2 hl hoc) (by rw [show lr_n (upd g (297 + 11 * l) (g (297 + 11 * l) + 1)) 289 = lr_n g 289 from by unfold lr_n; rw [upd_ne (by omega)]]; exact hl)) cal_X10_returns lk10_137 (by decide +kernel) rfl (by decide +kernel) rfl rfl rfl rfl (Nat.le_of_ble_eq_true rfl) (by decide) (by decide) (fun _ _ h9 => h9.elim) ?_
              rintro _ μ3 ⟨rfl, hf, hr⟩
              show pm_V _ _ _ _ 191 _ [] _
              exact pm_vret rfl (by decide) (by decide) (by decide +kernel) (⟨rfl, (lr_fm.set lr_fm.rf).tr hf, by have hc : lr_oc g l (nI (lr_n g 0)) = 3 := (by unfold lr_oc; rw [hp, if_neg (Int32.not_le.mpr h42), et, if_neg (show ¬ lr_sv g t = -1 from fun e => absurd h51 (by rw [e]; decide)), if_neg (Int32.not_lt.mpr h86), if_neg h108, if_pos (hgn.mp h132)]); rw [hr]; unfold lr_look; rw [hT, hc, if_neg (by decide), if_neg (by decide), if_neg (by decide), if_neg (by decide), if_pos (by first | exact h182 | (rw [pm_set_hit] at h182; exact h182))]; first | rfl | (rw [show lr_n (upd g (297 + 11 * l) (g (297 + 11 * l) + 1)) 0 = lr_n g 0 from by unfold lr_n; rw [upd_ne (by omega)]])⟩)
          · refine pm_bl [(.aload_n 0, 1, 0, 0, 0), (.iload_n 1, 1, 1, 0, 0), (.iload_n 3, 1, 3, 0, 0), (.aload_n 0, 1, 0, 0, 0), (.iload_n 2, 1, 2, 0, 0), (.aload_n 0, 1, 0, 0, 0), (.getfield 7, 3, 10, 0, 0), (.iconst 0, 1, 0, 0, 0), (.iaload, 1, 0, 0, 0)] (pc1 := 146) (lo1 := [some (.ref 47), some (.int (nI l)), some (.int (nI p)), some (.int (nI t))]) (st1 := [.int (μ.1 48 (0 : Int32).toNatClampNeg), .int (nI p), .ref 47, .int (nI t), .int (nI l), .ref 47]) (μ1 := μ) (vc := vp_in 0 620 ∧ True) rfl (by decide +kernel) rfl ⟨(by unfold vp_in; decide), trivial⟩ ?_
            rw [show (0 : Int32).toNatClampNeg = 0 from by decide, hM, lr_gT hG]
            refine pm_callV2 mi_X10_signs (ix := 124) (b := 47) (ci := 10) (kc2 := 0) (ks2 := 0) (As := [.int (nI p), .int (nI (lr_n g 0))]) (rest := [.int (nI t), .int (nI l), .ref 47]) (c_X10_signs (p := p) (d := lr_n g 0) μ hM hG hX rfl (lr_mT hG) hP2) cal_X10_signs lk10_124 (by decide +kernel) rfl (by decide +kernel) rfl rfl rfl rfl (Nat.le_of_ble_eq_true rfl) (by decide) (by decide) (fun _ _ h9 => h9.elim) ?_
            rintro _ _ ⟨rfl, h9⟩; rw [h9]; clear h9
            show pm_V _ _ _ _ 149 _ [.int (lr_sg g p (nI (lr_n g 0))), .int (nI t), .int (nI l), .ref 47] _
            refine pm_callV2 mi_X10_delivers (ix := 141) (b := 47) (ci := 10) (kc2 := 0) (ks2 := 0) (As := [.int (nI l), .int (nI t), .int (lr_sg g p (nI (lr_n g 0)))]) (rest := []) (c_X10_delivers (j := l) (nI t) (lr_sg g p (nI (lr_n g 0))) μ hM hG hl) cal_X10_delivers lk10_141 (by decide +kernel) rfl (by decide +kernel) rfl rfl rfl rfl (Nat.le_of_ble_eq_true rfl) (by decide) (by decide) (fun _ _ h9 => h9.elim) ?_
            rintro _ μ3 ⟨rfl, hf, hr⟩
            show pm_V _ _ _ _ 152 _ [] _
            refine pm_bl [(.goto 39, 3, 191, 0, 0)] (pc1 := 191) (lo1 := [some (.ref 47), some (.int (nI l)), some (.int (nI p)), some (.int (nI t))]) (st1 := []) (μ1 := μ3) (vc := True) rfl (by decide +kernel) rfl trivial ?_
            exact pm_vret rfl (by decide) (by decide) (by decide +kernel) (⟨rfl, hf, by have hc : lr_oc g l (nI (lr_n g 0)) = 5 := (by unfold lr_oc; rw [hp, if_neg (Int32.not_le.mpr h42), et, if_neg (show ¬ lr_sv g t = -1 from fun e => absurd h51 (by rw [e]; decide)), if_neg (Int32.not_lt.mpr h86), if_neg h108, if_neg (fun e => h132 (hgn.mpr e))]); rw [hr]; unfold lr_look; rw [hT, hc, if_neg (by decide), if_neg (by decide), if_neg (by decide), if_pos rfl, hp, he, if_neg h108]⟩)
        · refine pm_bl [(.aload_n 0, 1, 0, 0, 0), (.iload_n 1, 1, 1, 0, 0), (.iload_n 3, 1, 3, 0, 0), (.iconst (-1), 1, 0, 0, (-1))] (pc1 := 115) (lo1 := [some (.ref 47), some (.int (nI l)), some (.int (nI p)), some (.int (nI t))]) (st1 := [.int (-1), .int (nI t), .int (nI l), .ref 47]) (μ1 := μ) (vc := True) rfl (by decide +kernel) rfl trivial ?_
          refine pm_callV2 mi_X10_delivers (ix := 141) (b := 47) (ci := 10) (kc2 := 0) (ks2 := 0) (As := [.int (nI l), .int (nI t), .int (-1)]) (rest := []) (c_X10_delivers (j := l) (nI t) (-1) μ hM hG hl) cal_X10_delivers lk10_141 (by decide +kernel) rfl (by decide +kernel) rfl rfl rfl rfl (Nat.le_of_ble_eq_true rfl) (by decide) (by decide) (fun _ _ h9 => h9.elim) ?_
          rintro _ μ3 ⟨rfl, hf, hr⟩
          show pm_V _ _ _ _ 118 _ [] _
          refine pm_bl [(.goto 73, 3, 191, 0, 0)] (pc1 := 191) (lo1 := [some (.ref 47), some (.int (nI l)), some (.int (nI p)), some (.int (nI t))]) (st1 := []) (μ1 := μ3) (vc := True) rfl (by decide +kernel) rfl trivial ?_
          exact pm_vret rfl (by decide) (by decide) (by decide +kernel) (⟨rfl, hf, by have hc : lr_oc g l (nI (lr_n g 0)) = 5 := (by unfold lr_oc; rw [hp, if_neg (Int32.not_le.mpr h42), et, if_neg (show ¬ lr_sv g t = -1 from fun e => absurd h51 (by rw [e]; decide)), if_neg (Int32.not_lt.mpr h86), if_pos h108]); rw [hr]; unfold lr_look; rw [hT, hc, if_neg (by decide), if_neg (by decide), if_neg (by decide), if_pos rfl, hp, he, if_pos h108]⟩)
      · refine pm_bl [(.aload_n 0, 1, 0, 0, 0), (.iload_n 1, 1, 1, 0, 0), (.iconst 2, 1, 0, 0, 2)] (pc1 := 92) (lo1 := [some (.ref 47), some (.int (nI l)), some (.int (nI p)), some (.int (nI t))]) (st1 := [.int 2, .int (nI l), .ref 47]) (μ1 := μ) (vc := True) rfl (by decide +kernel) rfl trivial ?_
        refine pm_callV2 mi_X10_returns (ix := 137) (b := 47) (ci := 10) (kc2 := 0) (ks2 := 0) (As := [.int (nI l), .int 2]) (rest := []) (c_X10_returns (j := l) 2 μ hM hG hl) cal_X10_returns lk10_137 (by decide +kernel) rfl (by decide +kernel) rfl rfl rfl rfl (Nat.le_of_ble_eq_true rfl) (by decide) (by decide) (fun _ _ h9 => h9.elim) ?_
        rintro _ μ3 ⟨rfl, hf, hr⟩
        show pm_V _ _ _ _ 95 _ [] _
        refine pm_bl [(.goto 96, 3, 191, 0, 0)] (pc1 := 191) (lo1 := [some (.ref 47), some (.int (nI l)), some (.int (nI p)), some (.int (nI t))]) (st1 := []) (μ1 := μ3) (vc := True) rfl (by decide +kernel) rfl trivial ?_
        exact pm_vret rfl (by decide) (by decide) (by decide +kernel) (⟨rfl, hf, by have hc : lr_oc g l (nI (lr_n g 0)) = 2 := (by unfold lr_oc; rw [hp, if_neg (Int32.not_le.mpr h42), et, if_neg (show ¬ lr_sv g t = -1 from fun e => absurd h51 (by rw [e]; decide)), if_pos (Int32.not_le.mp h86)]); rw [hr]; unfold lr_look; rw [hT, hc, if_neg (by decide), if_neg (by decide), if_pos rfl]⟩)
    · refine pm_bl [(.aload_n 0, 1, 0, 0, 0), (.iload_n 1, 1, 1, 0, 0), (.iconst 1, 1, 0, 0, 1)] (pc1 := 57) (lo1 := [some (.ref 47), some (.int (nI l)), some (.int (nI p)), some (.int (nI t))]) (st1 := [.int 1, .int (nI l), .ref 47]) (μ1 := μ) (vc := True) rfl (by decide +kernel) rfl trivial ?_
      refine pm_callV2 mi_X10_returns (ix := 137) (b := 47) (ci := 10) (kc2 := 0) (ks2 := 0) (As := [.int (nI l), .int 1]) (rest := []) (c_X10_returns (j := l) 1 μ hM hG hl) cal_X10_returns lk10_137 (by decide +kernel) rfl (by decide +kernel) rfl rfl rfl rfl (Nat.le_of_ble_eq_true rfl) (by decide) (by decide) (fun _ _ h9 => h9.elim) ?_
      rintro _ μ3 ⟨rfl, hf, hr⟩
      show pm_V _ _ _ _ 60 _ [] _
      refine pm_bl [(.goto 131, 3, 191, 0, 0)] (pc1 := 191) (lo1 := [some (.ref 47), some (.int (nI l)), some (.int (nI p)), some (.int (nI t))]) (st1 := []) (μ1 := μ3) (vc := True) rfl (by decide +kernel) rfl trivial ?_
      exact pm_vret rfl (by decide) (by decide) (by decide +kernel) (⟨rfl, hf, by have hc : lr_oc g l (nI (lr_n g 0)) = 1 := (by unfold lr_oc; rw [hp, if_neg (Int32.not_le.mpr h42), et, if_pos (hsn.mp (Int32.not_le.mp h51))]); rw [hr]; unfold lr_look; rw [hT, hc, if_neg (by decide), if_pos rfl]⟩)
  · exact pm_vret rfl (by decide) (by decide) (by decide +kernel) (⟨rfl, lr_fm.rf, by have hc : lr_oc g l (nI (lr_n g 0)) = 0 := (by unfold lr_oc; rw [hp, if_pos (Int32.not_lt.mp h42)]); rw [hM]; unfold lr_look; rw [hT, hc, if_pos rfl]⟩)
