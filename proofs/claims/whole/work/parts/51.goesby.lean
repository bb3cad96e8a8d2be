/-! the model: a day goes by -/
theorem lr_look_o {g : Nat → Int32} {l x : Nat} (hx : x < 290 + 11 * l ∨ 301 + 11 * l ≤ x) : lr_look g l x = g x := by
  unfold lr_look lr_gret lr_gdl0
  repeat' split
  all_goals first
    | rfl
    | (rw [upd_ne (by omega), upd_ne (by omega), upd_ne (by omega), upd_ne (by omega)]; done)
    | (rw [upd_ne (by omega), upd_ne (by omega), upd_ne (by omega)]; done)
    | (rw [upd_ne (by omega)]; done)
theorem lr_gret_o {g : Nat → Int32} {l x : Nat} {a b : Int32} (hx : x < 290 + 11 * l ∨ 301 + 11 * l ≤ x) : lr_gret g l a b x = g x := by
  unfold lr_gret; rw [upd_ne (by omega), upd_ne (by omega), upd_ne (by omega)]
theorem lr_look_G {g : Nat → Int32} (hG : lr_G g) {l : Nat} (hl : l < lr_n g 289) (ht : ∃ t, g (297 + 11 * l) = nI t ∧ t ≤ 2) : lr_G (lr_look g l) := by
  have hP := lr_Lc.p hG hl
  obtain ⟨t, he, htt⟩ := lr_we_ok hG hP.2 (g 0)
  have m2 := lr_mp hG
  unfold lr_look
  split
  · exact hG
  split
  · exact hG.ret hl (y := 1) (by omega)
  split
  · exact hG.ret hl (y := 2) (by omega)
  split
  · rename_i h5
    rw [he]
    by_cases h0 : g (292 + 11 * l) = 0
    · rw [if_pos h0]; exact hG.dl0 hl htt (s := 0) (by omega) (fun e => by rw [h0] at e; exact absurd e (by decide))
    · rw [if_neg h0]
      rcases lr_sg_ok (g := g) (lr_n g (290 + 11 * l)) (g 0) hP.2 with e | ⟨i, e, hi⟩
      · exfalso
        unfold lr_oc at h5
        rw [e, if_neg h0, if_pos rfl] at h5
        repeat' split at h5
        all_goals exact absurd h5 (by decide)
      · rw [e]
        have q := hG.dl0 hl htt (s := i + 1) (by omega) (fun _ => by omega)
        rwa [nI_pred] at q
  · obtain ⟨u, hu, hu2⟩ := ht
    have q := hG.try hl (t := u + 1) (by omega)
    rw [hu, nI_1]
    have m6 := lr_ml hG
    split
    · have e0 : upd g (297 + 11 * l) (nI (u + 1)) 0 = g 0 := upd_ne (by omega)
      have q2 := q.ret (l := l) (by rw [show lr_n (upd g (297 + 11 * l) (nI (u + 1))) 289 = lr_n g 289 from by unfold lr_n; rw [upd_ne (by omega)]]; exact hl) (y := 3) (by omega)
      rw [e0] at q2
      exact q2
    · exact q
/-- after the first k letters were looked at -/
def lr_pa (g : Nat → Int32) : Nat → Nat → Int32
  | 0 => g
  | k + 1 => if lr_pa g k (294 + 11 * k) = 0 then lr_look (lr_pa g k) k else lr_pa g k
/-- after the first k letters, if they are too old, were returned -/
def lr_pb (g : Nat → Int32) : Nat → Nat → Int32
  | 0 => g
  | k + 1 => if lr_pb g k (294 + 11 * k) = 0 ∧ ¬ lr_pb g k 0 - lr_pb g k (293 + 11 * k) < 30 then lr_gret (lr_pb g k) k (lr_pb g k 0) 4 else lr_pb g k
theorem lr_pa_o {g : Nat → Int32} : ∀ k x : Nat, (x < 290 ∨ 290 + 11 * k ≤ x) → lr_pa g k x = g x := by
  intro k
  induction k with
  | zero => intro x _; rfl
  | succ k ih =>
    intro x hx
    simp only [lr_pa]
    split
    · rw [lr_look_o (by omega), ih x (by omega)]
    · rw [ih x (by omega)]
theorem lr_pb_o {g : Nat → Int32} : ∀ k x : Nat, (x < 290 ∨ 290 + 11 * k ≤ x) → lr_pb g k x = g x := by
  intro k
  induction k with
  | zero => intro x _; rfl
  | succ k ih =>
    intro x hx
    simp only [lr_pb]
    split
    · rw [lr_gret_o (by omega), ih x (by omega)]
    · rw [ih x (by omega)]
theorem lr_pa_sm {g : Nat → Int32} {k : Nat} : lr_Sm g (lr_pa g k) := fun x _ h2 => lr_pa_o k x (by omega)
theorem lr_pb_sm {g : Nat → Int32} {k : Nat} : lr_Sm g (lr_pb g k) := fun x _ h2 => lr_pb_o k x (by omega)
theorem lr_pa_n {g : Nat → Int32} {k x : Nat} (hx : x < 290) : lr_n (lr_pa g k) x = lr_n g x := by unfold lr_n; rw [lr_pa_o k x (by omega)]
theorem lr_pb_n {g : Nat → Int32} {k x : Nat} (hx : x < 290) : lr_n (lr_pb g k) x = lr_n g x := by unfold lr_n; rw [lr_pb_o k x (by omega)]
/-- who waits was tried less than three times -/
def lr_W (g : Nat → Int32) : Prop := ∀ l, l < lr_n g 289 → g (294 + 11 * l) = 0 → ∃ t, g (297 + 11 * l) = nI t ∧ t ≤ 2
theorem lr_pa_G {g : Nat → Int32} (hG : lr_G g) (hW : lr_W g) : ∀ k, k ≤ lr_n g 289 → lr_G (lr_pa g k) := by
  intro k
  induction k with
  | zero => intro _; exact hG
  | succ k ih =>
    intro hk
    simp only [lr_pa]
    split
    · rename_i h
      refine lr_look_G (ih (by omega)) (by rw [lr_pa_n (by omega)]; omega) ?_
      rw [lr_pa_o k _ (by omega)] at h
      rw [lr_pa_o k _ (by omega)]
      exact hW k (by omega) h
    · exact ih (by omega)
theorem lr_pb_G {g : Nat → Int32} (hG : lr_G g) : ∀ k, k ≤ lr_n g 289 → lr_G (lr_pb g k) := by
  intro k
  induction k with
  | zero => intro _; exact hG
  | succ k ih =>
    intro hk
    simp only [lr_pb]
    split
    · exact (ih (by omega)).ret (by rw [lr_pb_n (by omega)]; omega) (y := 4) (by omega)
    · exact ih (by omega)
set_option maxHeartbeats 4000000 in
set_option maxRecDepth 100000 in
theorem e_X10_goesBy1 {g : Nat → Int32} (P : Option Value → pm_Mm → Prop) (μ : pm_Mm) (hM : μ.1 48 = g) (hG : lr_G g) (K : pm_V mi_X10_goesBy (P, pm_NX, fun _ _ _ => True) 0 0 38 [some (.ref 47), none] [] μ) : pm_V mi_X10_goesBy (P, pm_NX, fun _ _ _ => True) 0 0 2 [some (.ref 47), some (.int (nI (lr_n g 289)))] [] μ := by
  have hm1 := lr_mh hG; have hm2 := lr_mw hG; have hm3 := lr_mp hG; have hm4 := lr_mr hG; have hm5 := lr_ma hG; have hm6 := lr_ml hG
  obtain ⟨k, hk⟩ : ∃ k, k = lr_n g 289 := ⟨_, rfl⟩
  rw [← hk]
  refine pm_bl [(.iload_n 1, 1, 1, 0, 0), (.aload_n 0, 1, 0, 0, 0), (.getfield 7, 3, 10, 0, 0), (.sipush 289, 3, 0, 0, 289), (.iaload, 1, 0, 0, 0)] (pc1 := 11) (lo1 := [some (.ref 47), some (.int (nI k))]) (st1 := [.int (μ.1 48 (289 : Int32).toNatClampNeg), .int (nI k)]) (μ1 := μ) (vc := vp_in 289 620 ∧ True) rfl (by decide +kernel) rfl ⟨(by unfold vp_in; decide), trivial⟩ ?_
  rw [show (289 : Int32).toNatClampNeg = 289 from by decide, hM, lr_gl hG]
  refine pm_icmp_ge (off := 27) 38 (by decide +kernel) (by decide) (fun (h11 : (nI (lr_n g 289)) ≤ (nI k)) => ?_) (fun (h9 : ¬ ((nI (lr_n g 289)) ≤ (nI k))) => absurd (nI_le (by omega) (by omega)) h9)
  exact pm_V.drop (lo' := [some (.ref 47), none]) ⟨rfl, trivial⟩ K
set_option maxHeartbeats 4000000 in
set_option maxRecDepth 100000 in
theorem e_X10_goesBy2 {g : Nat → Int32} (P : Option Value → pm_Mm → Prop) (μ : pm_Mm) (hM : μ.1 48 = g) (hG : lr_G g) (K : pm_V mi_X10_goesBy (P, pm_NX, fun _ _ _ => True) 0 0 99 [some (.ref 47), none] [] μ) : pm_V mi_X10_goesBy (P, pm_NX, fun _ _ _ => True) 0 0 40 [some (.ref 47), some (.int (nI (lr_n g 289)))] [] μ := by
  have hm1 := lr_mh hG; have hm2 := lr_mw hG; have hm3 := lr_mp hG; have hm4 := lr_mr hG; have hm5 := lr_ma hG; have hm6 := lr_ml hG
  obtain ⟨k, hk⟩ : ∃ k, k = lr_n g 289 := ⟨_, rfl⟩
  rw [← hk]
  refine pm_bl [(.iload_n 1, 1, 1, 0, 0), (.aload_n 0, 1, 0, 0, 0), (.getfield 7, 3, 10, 0, 0), (.sipush 289, 3, 0, 0, 289), (.iaload, 1, 0, 0, 0)] (pc1 := 49) (lo1 := [some (.ref 47), some (.int (nI k))]) (st1 := [.int (μ.1 48 (289 : Int32).toNatClampNeg), .int (nI k)]) (μ1 := μ) (vc := vp_in 289 620 ∧ True) rfl (by decide +kernel) rfl ⟨(by unfold vp_in; decide), trivial⟩ ?_
  rw [show (289 : Int32).toNatClampNeg = 289 from by decide, hM, lr_gl hG]
  refine pm_icmp_ge (off := 50) 99 (by decide +kernel) (by decide) (fun (h49 : (nI (lr_n g 289)) ≤ (nI k)) => ?_) (fun (h9 : ¬ ((nI (lr_n g 289)) ≤ (nI k))) => absurd (nI_le (by omega) (by omega)) h9)
  exact pm_V.drop (lo' := [some (.ref 47), none]) ⟨rfl, trivial⟩ K
set_option maxHeartbeats 4000000 in
set_option maxRecDepth 100000 in
theorem s_X10_goesBy1 {g : Nat → Int32} {k : Nat} (P : Option Value → pm_Mm → Prop) (μ : pm_Mm) (hM : μ.1 48 = g) (hG : lr_G g) (hX : lr_X g) (hk : k < lr_n g 289) (ht : g (294 + 11 * k) = 0 → ∃ t, g (297 + 11 * k) = nI t ∧ t ≤ 2) (K : ∀ μ2, lr_fm μ μ2 → μ2.1 48 = (if g (294 + 11 * k) = 0 then lr_look g k else g) → pm_V mi_X10_goesBy (P, pm_NX, fun _ _ _ => True) 0 0 2 [some (.ref 47), some (.int (nI (k + 1)))] [] μ2) : pm_V mi_X10_goesBy (P, pm_NX, fun _ _ _ => True) 0 0 2 [some (.ref 47), some (.int (nI k))] [] μ := by
  have hm1 := lr_mh hG; have hm2 := lr_mw hG; have hm3 := lr_mp hG; have hm4 := lr_mr hG; have hm5 := lr_ma hG; have hm6 := lr_ml hG
  refine pm_bl [(.iload_n 1, 1, 1, 0, 0), (.aload_n 0, 1, 0, 0, 0), (.getfield 7, 3, 10, 0, 0), (.sipush 289, 3, 0, 0, 289), (.iaload, 1, 0, 0, 0)] (pc1 := 11) (lo1 := [some (.ref 47), some (.int (nI k))]) (st1 := [.int (μ.1 48 (289 : Int32).toNatClampNeg), .int (nI k)]) (μ1 := μ) (vc := vp_in 289 620 ∧ True) rfl (by decide +kernel) rfl ⟨(by unfold vp_in; decide), trivial⟩ ?_
  rw [show (289 : Int32).toNatClampNeg = 289 from by decide, hM, lr_gl hG]
  refine pm_icmp_ge (off := 27) 38 (by decide +kernel) (by decide) (fun (h9 : (nI (lr_n g 289)) ≤ (nI k)) => absurd h9 (nI_ge (by omega) (by omega))) (fun (h11 : ¬ ((nI (lr_n g 289)) ≤ (nI k))) => ?_)
  refine pm_bl [(.aload_n 0, 1, 0, 0, 0), (.getfield 7, 3, 10, 0, 0), (.iload_n 1, 1, 1, 0, 0), (.iconst 4, 1, 0, 0, 4)] (pc1 := 20) (lo1 := [some (.ref 47), some (.int (nI k))]) (st1 := [.int 4, .int (nI k), .ref 48]) (μ1 := μ) (vc := True) rfl (by decide +kernel) rfl trivial ?_
  refine pm_callS2 mi_X10_at (ix := 127) (kc2 := 0) (ks2 := 0) (As := [.int (nI k), .int 4]) (rest := [.ref 48]) (c_X10_at (k := k) (c := 4) (n := 294 + 11 * k) μ (by omega)) cal_X10_at lk10_127 (by decide +kernel) rfl (by decide +kernel) rfl rfl (Nat.le_of_ble_eq_true rfl) (by decide) (by decide) (fun _ _ h9 => h9.elim) ?_
  rintro _ _ ⟨rfl, h9⟩; rw [h9]; clear h9
  show pm_V _ _ _ _ 23 _ [.int (nI (294 + 11 * k)), .ref 48] _
  refine pm_bl [(.iaload, 1, 0, 0, 0)] (pc1 := 24) (lo1 := [some (.ref 47), some (.int (nI k))]) (st1 := [.int (μ.1 48 (nI (294 + 11 * k)).toNatClampNeg)]) (μ1 := μ) (vc := vp_in (nI (294 + 11 * k)) 620 ∧ True) rfl (by decide +kernel) rfl ⟨(vp_in_nI (by omega) (by omega)), trivial⟩ ?_
  first | rw [nI_clamp (n := 294 + 11 * k) (by omega), hM] | rw [hM]
  refine pm_if_ne (off := 8) 32 (by decide +kernel) (by decide) (fun (h24 : ¬ (g (294 + 11 * k)) = 0) => ?_) (fun (h24 : (g (294 + 11 * k)) = 0) => ?_)
  · refine pm_bl [(.iinc 1 1, 3, 1, 0, 1), (.goto (-33), 3, 2, 0, 0)] (pc1 := 2) (lo1 := [some (.ref 47), some (.int ((nI k) + 1))]) (st1 := []) (μ1 := μ) (vc := True) rfl (by decide +kernel) rfl trivial ?_
    rw [nI_1]; exact K _ lr_fm.rf (by rw [if_neg (by assumption)]; exact hM)
  · refine pm_bl [(.aload_n 0, 1, 0, 0, 0), (.iload_n 1, 1, 1, 0, 0)] (pc1 := 29) (lo1 := [some (.ref 47), some (.int (nI k))]) (st1 := [.int (nI k), .ref 47]) (μ1 := μ) (vc := True) rfl (by decide +kernel) rfl trivial ?_
    refine pm_callV2 mi_X10_looksAt (ix := 150) (b := 47) (ci := 10) (kc2 := 0) (ks2 := 0) (As := [.int (nI k)]) (rest := []) (c_X10_looksAt (l := k) μ hM hG hX hk (ht h24)) cal_X10_looksAt lk10_150 (by decide +kernel) rfl (by decide +kernel) rfl rfl rfl rfl (Nat.le_of_ble_eq_true rfl) (by decide) (by decide) (fun _ _ h9 => h9.elim) ?_
    rintro _ μ3 ⟨rfl, hf, hr⟩
    show pm_V _ _ _ _ 32 _ [] _
    refine pm_bl [(.iinc 1 1, 3, 1, 0, 1), (.goto (-33), 3, 2, 0, 0)] (pc1 := 2) (lo1 := [some (.ref 47), some (.int ((nI k) + 1))]) (st1 := []) (μ1 := μ3) (vc := True) rfl (by decide +kernel) rfl trivial ?_
    rw [nI_1]; exact K _ hf (by rw [if_pos (by assumption)]; exact hr)
set_option maxHeartbeats 4000000 in
set_option maxRecDepth 100000 in
theorem s_X10_goesBy2 {g : Nat → Int32} {k : Nat} (P : Option Value → pm_Mm → Prop) (μ : pm_Mm) (hM : μ.1 48 = g) (hG : lr_G g) (hk : k < lr_n g 289) (K : ∀ μ2, lr_fm μ μ2 → μ2.1 48 = (if g (294 + 11 * k) = 0 ∧ ¬ g 0 - g (293 + 11 * k) < 30 then lr_gret g k (g 0) 4 else g) → pm_V mi_X10_goesBy (P, pm_NX, fun _ _ _ => True) 0 0 40 [some (.ref 47), some (.int (nI (k + 1)))] [] μ2) : pm_V mi_X10_goesBy (P, pm_NX, fun _ _ _ => True) 0 0 40 [some (.ref 47), some (.int (nI k))] [] μ := by
  have hm1 := lr_mh hG; have hm2 := lr_mw hG; have hm3 := lr_mp hG; have hm4 := lr_mr hG; have hm5 := lr_ma hG; have hm6 := lr_ml hG
  have hT := lr_gT hG
  refine pm_bl [(.iload_n 1, 1, 1, 0, 0), (.aload_n 0, 1, 0, 0, 0), (.getfield 7, 3, 10, 0, 0), (.sipush 289, 3, 0, 0, 289), (.iaload, 1, 0, 0, 0)] (pc1 := 49) (lo1 := [some (.ref 47), some (.int (nI k))]) (st1 := [.int (μ.1 48 (289 : Int32).toNatClampNeg), .int (nI k)]) (μ1 := μ) (vc := vp_in 289 620 ∧ True) rfl (by decide +kernel) rfl ⟨(by unfold vp_in; decide), trivial⟩ ?_
  rw [show (289 : Int32).toNatClampNeg = 289 from by decide, hM, lr_gl hG]
  refine pm_icmp_ge (off := 50) 99 (by decide +kernel) (by decide) (fun (h9 : (nI (lr_n g 289)) ≤ (nI k)) => absurd h9 (nI_ge (by omega) (by omega))) (fun (h49 : ¬ ((nI (lr_n g 289)) ≤ (nI k))) => ?_)
  refine pm_bl [(.aload_n 0, 1, 0, 0, 0), (.getfield 7, 3, 10, 0, 0), (.iload_n 1, 1, 1, 0, 0), (.iconst 4, 1, 0, 0, 4)] (pc1 := 58) (lo1 := [some (.ref 47), some (.int (nI k))]) (st1 := [.int 4, .int (nI k), .ref 48]) (μ1 := μ) (vc := True) rfl (by decide +kernel) rfl trivial ?_
  refine pm_callS2 mi_X10_at (ix := 127) (kc2 := 0) (ks2 := 0) (As := [.int (nI k), .int 4]) (rest := [.ref 48]) (c_X10_at (k := k) (c := 4) (n := 294 + 11 * k) μ (by omega)) cal_X10_at lk10_127 (by decide +kernel) rfl (by decide +kernel) rfl rfl (Nat.le_of_ble_eq_true rfl) (by decide) (by decide) (fun _ _ h9 => h9.elim) ?_
  rintro _ _ ⟨rfl, h9⟩; rw [h9]; clear h9
  show pm_V _ _ _ _ 61 _ [.int (nI (294 + 11 * k)), .ref 48] _
  refine pm_bl [(.iaload, 1, 0, 0, 0)] (pc1 := 62) (lo1 := [some (.ref 47), some (.int (nI k))]) (st1 := [.int (μ.1 48 (nI (294 + 11 * k)).toNatClampNeg)]) (μ1 := μ) (vc := vp_in (nI (294 + 11 * k)) 620 ∧ True) rfl (by decide +kernel) rfl ⟨(vp_in_nI (by omega) (by omega)), trivial⟩ ?_
  first | rw [nI_clamp (n := 294 + 11 * k) (by omega), hM] | rw [hM]
  refine pm_if_ne (off := 31) 93 (by decide +kernel) (by decide) (fun (h62 : ¬ (g (294 + 11 * k)) = 0) => ?_) (fun (h62 : (g (294 + 11 * k)) = 0) => ?_)
  · refine pm_bl [(.iinc 1 1, 3, 1, 0, 1), (.goto (-56), 3, 40, 0, 0)] (pc1 := 40) (lo1 := [some (.ref 47), some (.int ((nI k) + 1))]) (st1 := []) (μ1 := μ) (vc := True) rfl (by decide +kernel) rfl trivial ?_
    rw [nI_1]; exact K _ lr_fm.rf (by rw [if_neg (by rw [hT]; intro e; first | exact h62 e.1 | exact e.2 h84)]; exact hM)
  · refine pm_bl [(.aload_n 0, 1, 0, 0, 0), (.getfield 7, 3, 10, 0, 0), (.iconst 0, 1, 0, 0, 0), (.iaload, 1, 0, 0, 0)] (pc1 := 71) (lo1 := [some (.ref 47), some (.int (nI k))]) (st1 := [.int (μ.1 48 (0 : Int32).toNatClampNeg)]) (μ1 := μ) (vc := vp_in 0 620 ∧ True) rfl (by decide +kernel) rfl ⟨(by unfold vp_in; decide), trivial⟩ ?_
    rw [show (0 : Int32).toNatClampNeg = 0 from by decide, hM, lr_gT hG]
    refine pm_bl [(.aload_n 0, 1, 0, 0, 0), (.getfield 7, 3, 10, 0, 0), (.iload_n 1, 1, 1, 0, 0), (.iconst 3, 1, 0, 0, 3)] (pc1 := 77) (lo1 := [some (.ref 47), some (.int (nI k))]) (st1 := [.int 3, .int (nI k), .ref 48, .int (nI (lr_n g 0))]) (μ1 := μ) (vc := True) rfl (by decide +kernel) rfl trivial ?_
    refine pm_callS2 mi_X10_at (ix := 127) (kc2 := 0) (ks2 := 0) (As := [.int (nI k), .int 3]) (rest := [.ref 48, .int (nI (lr_n g 0))]) (c_X10_at (k := k) (c := 3) (n := 293 + 11 * k) μ (by omega)) cal_X10_at lk10_127 (by decide +kernel) rfl (by decide +kernel) rfl rfl (Nat.le_of_ble_eq_true rfl) (by decide) (by decide) (fun _ _ h9 => h9.elim) ?_
    rintro _ _ ⟨rfl, h9⟩; rw [h9]; clear h9
    show pm_V _ _ _ _ 80 _ [.int (nI (293 + 11 * k)), .ref 48, .int (nI (lr_n g 0))] _
    refine pm_bl [(.iaload, 1, 0, 0, 0)] (pc1 := 81) (lo1 := [some (.ref 47), some (.int (nI k))]) (st1 := [.int (μ.1 48 (nI (293 + 11 * k)).toNatClampNeg), .int (nI (lr_n g 0))]) (μ1 := μ) (vc := vp_in (nI (293 + 11 * k)) 620 ∧ True) rfl (by decide +kernel) rfl ⟨(vp_in_nI (by omega) (by omega)), trivial⟩ ?_
    first | rw [nI_clamp (n := 293 + 11 * k) (by omega), hM] | rw [hM]
    refine pm_bl [(.isub, 1, 0, 0, 0), (.bipush 30, 2, 0, 0, 30)] (pc1 := 84) (lo1 := [some (.ref 47), some (.int (nI k))]) (st1 := [.int 30, .int ((nI (lr_n g 0)) - (g (293 + 11 * k)))]) (μ1 := μ) (vc := True) rfl (by decide +kernel) rfl trivial ?_
    refine pm_icmp_lt (off := 9) 93 (by decide +kernel) (by decide) (fun (h84 : ((nI (lr_n g 0)) - (g (293 + 11 * k))) < 30) => ?_) (fun (h84 : ¬ (((nI (lr_n g 0)) - (g (293 + 11 * k))) < 30)) => ?_)
    · refine pm_bl [(.iinc 1 1, 3, 1, 0, 1), (.goto (-56), 3, 40, 0, 0)] (pc1 := 40) (lo1 := [some (.ref 47), some (.int ((nI k) + 1))]) (st1 := []) (μ1 := μ) (vc := True) rfl (by decide +kernel) rfl trivial ?_
      rw [nI_1]; exact K _ lr_fm.rf (by rw [if_neg (by rw [hT]; intro e; first | exact h62 e.1 | exact e.2 h84)]; exact hM)
    · refine pm_bl [(.aload_n 0, 1, 0, 0, 0), (.iload_n 1, 1, 1, 0, 0), (.iconst 4, 1, 0, 0, 4)] (pc1 := 90) (lo1 := [some (.ref 47), some (.int (nI k))]) (st1 := [.int 4, .int (nI k), .ref 47]) (μ1 := μ) (vc := True) rfl (by decide +kernel) rfl trivial ?_
      refine pm_callV2 mi_X10_returns (ix := 137) (b := 47) (ci := 10) (kc2 := 0) (ks2 := 0) (As := [.int (nI k), .int 4]) (rest := []) (c_X10_returns (j := k) 4 μ hM hG hk) cal_X10_returns lk10_137 (by decide +kernel) rfl (by decide +kernel) rfl rfl rfl rfl (Nat.le_of_ble_eq_true rfl) (by decide) (by decide) (fun _ _ h9 => h9.elim) ?_
      rintro _ μ3 ⟨rfl, hf, hr⟩
      show pm_V _ _ _ _ 93 _ [] _
      refine pm_bl [(.iinc 1 1, 3, 1, 0, 1), (.goto (-56), 3, 40, 0, 0)] (pc1 := 40) (lo1 := [some (.ref 47), some (.int ((nI k) + 1))]) (st1 := []) (μ1 := μ3) (vc := True) rfl (by decide +kernel) rfl trivial ?_
      rw [nI_1]; exact K _ hf (by rw [if_pos (by rw [hT]; exact ⟨h62, h84⟩), hT]; exact hr)
/-- a day gone by: S the letters handed over, in their order -/
def lr_gby (g : Nat → Int32) (S : List Nat) : Nat → Int32 := upd (lr_nums (lr_pb (lr_pa g (lr_n g 289)) (lr_n g 289)) S) 0 (nI (lr_n g 0 + 1))
theorem lr_nums_o : ∀ (S : List Nat) {g : Nat → Int32} {x : Nat}, x ≠ 1 → (∀ s, s ∈ S → x ≠ 300 + 11 * s) → lr_nums g S x = g x := by
  intro S
  induction S with
  | nil => intro g x _ _; rfl
  | cons s S ih => intro g x h1 h2; simp only [lr_nums]; rw [ih h1 (fun t ht => h2 t (List.mem_cons_of_mem _ ht)), lr_num1_o h1 (h2 s (List.mem_cons_self ..))]
set_option maxHeartbeats 4000000 in
set_option maxRecDepth 100000 in
theorem t_X10_goesBy {g : Nat → Int32} {S : List Nat} (P : Option Value → pm_Mm → Prop) (μ : pm_Mm) (hM : μ.1 48 = g) (hG : lr_G g) (hS : lr_Srt g S) (hd : lr_n g 1 + S.length ≤ 30) (K : ∀ μ2, lr_fm μ μ2 → μ2.1 48 = upd (lr_nums g S) 0 (nI (lr_n g 0 + 1)) → P (some (.int (nI S.length))) μ2) : pm_V mi_X10_goesBy (P, pm_NX, fun _ _ _ => True) 0 0 99 [some (.ref 47), none] [] μ := by
  have hm1 := lr_mh hG; have hm2 := lr_mw hG; have hm3 := lr_mp hG; have hm4 := lr_mr hG; have hm5 := lr_ma hG; have hm6 := lr_ml hG
  have e0 : lr_nums g S 0 = nI (lr_n g 0) := by rw [lr_nums_o S (by omega) (fun s _ => by omega)]; exact lr_gT hG
  refine pm_bl [(.aload_n 0, 1, 0, 0, 0)] (pc1 := 100) (lo1 := [some (.ref 47), none]) (st1 := [.ref 47]) (μ1 := μ) (vc := True) rfl (by decide +kernel) rfl trivial ?_
  refine pm_callV2 mi_X10_numbers (ix := 154) (b := 47) (ci := 10) (kc2 := 0) (ks2 := 0) (As := []) (rest := []) (c_X10_numbers μ hM hG hS hd) cal_X10_numbers lk10_154 (by decide +kernel) rfl (by decide +kernel) rfl rfl rfl rfl (Nat.le_of_ble_eq_true rfl) (by decide) (by decide) (fun _ _ h9 => h9.elim) ?_
  rintro _ μ3 ⟨rfl, hf, hr⟩
  show pm_V _ _ _ _ 103 _ [.int (nI S.length)] _
  refine pm_bl [(.istore_n 1, 1, 1, 0, 0), (.aload_n 0, 1, 0, 0, 0), (.getfield 7, 3, 10, 0, 0), (.iconst 0, 1, 0, 0, 0), (.dup2, 1, 0, 0, 0), (.iaload, 1, 0, 0, 0)] (pc1 := 111) (lo1 := [some (.ref 47), some (.int (nI S.length))]) (st1 := [.int (μ3.1 48 (0 : Int32).toNatClampNeg), .int 0, .ref 48]) (μ1 := μ3) (vc := vp_in 0 620 ∧ True) rfl (by decide +kernel) rfl ⟨(by unfold vp_in; decide), trivial⟩ ?_
  rw [show (0 : Int32).toNatClampNeg = 0 from by decide, hr, e0]
  refine pm_bl [(.iconst 1, 1, 0, 0, 1), (.iadd, 1, 0, 0, 0), (.iastore, 1, 0, 0, 0), (.iload_n 1, 1, 1, 0, 0)] (pc1 := 115) (lo1 := [some (.ref 47), some (.int (nI S.length))]) (st1 := [.int (nI S.length)]) (μ1 := pm_set μ3 48 ((0 : Int32).toNatClampNeg) ((nI (lr_n g 0)) + 1)) (vc := vp_in 0 620 ∧ True) rfl (by decide +kernel) rfl ⟨(by unfold vp_in; decide), trivial⟩ ?_
  try rw [show (0 : Int32).toNatClampNeg = 0 from by decide]
  exact pm_iret (ty := .int) rfl rfl (by decide) (by decide) (by decide +kernel) (by rw [nI_1]; exact K _ (lr_fm.set hf) (by rw [pm_set_at, hr]))
set_option maxHeartbeats 4000000 in
set_option maxRecDepth 100000 in
theorem c_X10_goesBy {g : Nat → Int32} {S : List Nat} (μ : pm_Mm) (hM : μ.1 48 = g) (hG : lr_G g) (hX : lr_X g) (hW : lr_W g) (hS : lr_Srt (lr_pb (lr_pa g (lr_n g 289)) (lr_n g 289)) S) (hd : lr_n g 1 + S.length ≤ 30) : pm_CT mi_X10_goesBy [.ref 47] μ (fun v μ2 => v = some (.int (nI S.length)) ∧ lr_fm μ μ2 ∧ μ2.1 48 = lr_gby g S) pm_NX := by
  refine pm_CT_of (lo := [some (.ref 47), none]) (by decide +kernel) rfl rfl (by intro v hv; simp at hv; rcases hv with rfl; rfl) (Nat.le_of_ble_eq_true rfl) rfl ?_
  have h9 : ∀ μ1, lr_fm μ μ1 → μ1.1 48 = lr_pb (lr_pa g (lr_n g 289)) (lr_n g 289) → pm_V mi_X10_goesBy ((fun v μ2 => v = some (.int (nI S.length)) ∧ lr_fm μ μ2 ∧ μ2.1 48 = lr_gby g S), pm_NX, fun _ _ _ => True) 0 0 99 [some (.ref 47), none] [] μ1 := by
    intro μ1 hf hM1
    refine t_X10_goesBy _ μ1 hM1 (lr_pb_G (lr_pa_G hG hW _ (Nat.le_refl _)) _ (by rw [lr_pa_n (by omega)]; exact Nat.le_refl _)) hS (by rw [lr_pb_n (by omega), lr_pa_n (by omega)]; exact hd) (fun μ2 hf2 hr => ⟨rfl, hf.tr hf2, ?_⟩)
    rw [hr, lr_pb_n (by omega), lr_pa_n (by omega)]; rfl
  have h4 : ∀ n k : Nat, k + n = lr_n g 289 → ∀ μ1, lr_fm μ μ1 → μ1.1 48 = lr_pb (lr_pa g (lr_n g 289)) k → pm_V mi_X10_goesBy ((fun v μ2 => v = some (.int (nI S.length)) ∧ lr_fm μ μ2 ∧ μ2.1 48 = lr_gby g S), pm_NX, fun _ _ _ => True) 0 0 40 [some (.ref 47), some (.int (nI k))] [] μ1 := by
    intro n
    induction n with
    | zero =>
      intro k hk μ1 hf hM1
      obtain rfl : k = lr_n g 289 := by omega
      have e : lr_n (lr_pb (lr_pa g (lr_n g 289)) (lr_n g 289)) 289 = lr_n g 289 := by rw [lr_pb_n (by omega), lr_pa_n (by omega)]
      have q := e_X10_goesBy2 _ μ1 hM1 (lr_pb_G (lr_pa_G hG hW _ (Nat.le_refl _)) _ (by rw [lr_pa_n (by omega)]; exact Nat.le_refl _)) (h9 μ1 hf hM1)
      rwa [e] at q
    | succ n ih =>
      intro k hk μ1 hf hM1
      exact s_X10_goesBy2 _ μ1 hM1 (lr_pb_G (lr_pa_G hG hW _ (Nat.le_refl _)) k (by rw [lr_pa_n (by omega)]; omega)) (by rw [lr_pb_n (by omega), lr_pa_n (by omega)]; omega) (fun μ2 hf2 hr => ih (k + 1) (by omega) μ2 (hf.tr hf2) hr)
  have h2 : ∀ n k : Nat, k + n = lr_n g 289 → ∀ μ1, lr_fm μ μ1 → μ1.1 48 = lr_pa g k → pm_V mi_X10_goesBy ((fun v μ2 => v = some (.int (nI S.length)) ∧ lr_fm μ μ2 ∧ μ2.1 48 = lr_gby g S), pm_NX, fun _ _ _ => True) 0 0 2 [some (.ref 47), some (.int (nI k))] [] μ1 := by
    intro n
    induction n with
    | zero =>
      intro k hk μ1 hf hM1
      obtain rfl : k = lr_n g 289 := by omega
      have e : lr_n (lr_pa g (lr_n g 289)) 289 = lr_n g 289 := lr_pa_n (by omega)
      have q := e_X10_goesBy1 _ μ1 hM1 (lr_pa_G hG hW _ (Nat.le_refl _)) (by
            refine pm_bl [(.iconst 0, 1, 0, 0, 0), (.istore_n 1, 1, 1, 0, 0)] (pc1 := 40) (lo1 := [some (.ref 47), some (.int 0)]) (st1 := []) (μ1 := μ1) (vc := True) rfl (by decide +kernel) rfl trivial ?_
            exact h4 (lr_n g 289) 0 (Nat.zero_add _) μ1 hf hM1)
      rwa [e] at q
    | succ n ih =>
      intro k hk μ1 hf hM1
      refine s_X10_goesBy1 _ μ1 hM1 (lr_pa_G hG hW k (by omega)) (lr_pa_sm.X hG hX) (by rw [lr_pa_n (by omega)]; omega) (fun h => ?_) (fun μ2 hf2 hr => ih (k + 1) (by omega) μ2 (hf.tr hf2) hr)
      rw [lr_pa_o k _ (by omega)] at h
      rw [lr_pa_o k _ (by omega)]
      exact hW k (by omega) h
  refine pm_bl [(.iconst 0, 1, 0, 0, 0), (.istore_n 1, 1, 1, 0, 0)] (pc1 := 2) (lo1 := [some (.ref 47), some (.int 0)]) (st1 := []) (μ1 := μ) (vc := True) rfl (by decide +kernel) rfl trivial ?_
  exact h2 (lr_n g 289) 0 (Nat.zero_add _) μ lr_fm.rf hM
