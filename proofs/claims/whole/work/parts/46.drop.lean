/-! the model: dropRedirect, redirects of persons and houses, letters added -/
/-- redirects moved down, so far as j -/
def lr_rmk (g : Nat → Int32) (q k j : Nat) : Nat → Int32 := fun x => if 168 + 5 * k ≤ x ∧ x < j then g (x + 5) else if x = 167 then nI q else g x
theorem lr_rmk_0 (g : Nat → Int32) (q k : Nat) : lr_rmk g q k (168 + 5 * k) = upd g 167 (nI q) := by funext x; unfold lr_rmk upd; rw [if_neg (by omega)]
theorem lr_rmk_s {μ : pm_Mm} {g : Nat → Int32} {q k j : Nat} (hj : 168 + 5 * k ≤ j) : pm_set (pm_row μ 48 (lr_rmk g q k j)) 48 j ((pm_row μ 48 (lr_rmk g q k j)).1 48 (j + 5)) = pm_row μ 48 (lr_rmk g q k (j + 1)) := by
  rw [pm_row_at]
  refine Prod.ext (funext fun r => funext fun x => ?_) rfl
  show (if r = 48 ∧ x = j then lr_rmk g q k j (j + 5) else (if r = 48 then lr_rmk g q k j else μ.1 r) x) = (if r = 48 then lr_rmk g q k (j + 1) else μ.1 r) x
  by_cases hr : r = 48
  · rw [if_pos hr, if_pos hr]
    by_cases hx : x = j
    · rw [if_pos ⟨hr, hx⟩]; unfold lr_rmk; rw [if_neg (by omega), if_neg (by omega), if_pos (by omega), hx]
    · rw [if_neg (fun e => hx e.2)]; unfold lr_rmk
      by_cases h1 : 168 + 5 * k ≤ x ∧ x < j
      · rw [if_pos h1, if_pos (by omega)]
      · rw [if_neg h1, if_neg (show ¬ (168 + 5 * k ≤ x ∧ x < j + 1) by omega)]
  · rw [if_neg (fun e => hr e.1), if_neg hr, if_neg hr]
set_option maxHeartbeats 4000000 in
set_option maxRecDepth 100000 in
theorem t_X10_drop_r {g : Nat → Int32} {c q : Nat} (P : Option Value → pm_Mm → Prop) (x : Int32) (t : Option Value) (μ : pm_Mm) (hM : μ.1 48 = g) (hG : lr_G g) (h167 : g 167 = nI q) (hr : lr_rr g = true) (hP : P (some (.int 0)) (pm_set (pm_set (pm_row μ 48 (lr_cpy (μ.1 50) (μ.1 48) 0 0 620)) 47 6 2) 47 7 2)) : pm_V mi_X10_dropRedirect (P, pm_NX, fun _ _ _ => True) 0 0 107 [some (.ref 47), some (.int x), t] [] μ := by
  refine pm_V.drop (lo' := [some (.ref 47), some (.int x), none]) ⟨rfl, rfl, trivial⟩ ?_
  refine pm_bl [(.aload_n 0, 1, 0, 0, 0)] (pc1 := 108) (lo1 := [some (.ref 47), some (.int x), none]) (st1 := [.ref 47]) (μ1 := μ) (vc := True) rfl (by decide +kernel) rfl trivial ?_
  refine pm_callV2 mi_X10_isRound (ix := 98) (b := 47) (ci := 10) (kc2 := 0) (ks2 := 0) (As := []) (rest := []) (c_X10_isRound μ hM hG) cal_X10_isRound lk10_98 (by decide +kernel) rfl (by decide +kernel) rfl rfl rfl rfl (Nat.le_of_ble_eq_true rfl) (by decide) (by decide) (fun _ _ h9 => h9.elim) ?_
  rintro _ _ ⟨rfl, h9⟩; rw [h9]; clear h9
  show pm_V _ _ _ _ 111 _ [.int (lr_b (lr_rr g))] _
  refine pm_ifb_eq (off := 23) 134 (by decide +kernel) (by decide) (fun (h9 : (lr_rr g) = false) => absurd (hr.symm.trans h9) (by decide)) (fun (h111 : (lr_rr g) = true) => ?_)
  refine pm_bl [(.aload_n 0, 1, 0, 0, 0), (.getfield 16, 3, 10, 2, 0), (.iconst 0, 1, 0, 0, 0), (.aload_n 0, 1, 0, 0, 0), (.getfield 7, 3, 10, 0, 0), (.iconst 0, 1, 0, 0, 0)] (pc1 := 124) (lo1 := [some (.ref 47), some (.int x), none]) (st1 := [.int 0, .ref 48, .int 0, .ref 50]) (μ1 := μ) (vc := True) rfl (by decide +kernel) rfl trivial ?_
  refine pm_callS2 mi_X10_copies (ix := 52) (kc2 := 0) (ks2 := 0) (As := [.ref 50, .int 0, .ref 48, .int 0]) (rest := []) (c_X10_cp_50_48 (i := 0) (j := 0) μ rfl rfl (by omega) (by omega)) cal_X10_copies lk10_52 (by decide +kernel) rfl (by decide +kernel) rfl rfl (Nat.le_of_ble_eq_true rfl) (by decide) (by decide) (fun _ _ h9 => h9.elim) ?_
  rintro _ _ ⟨rfl, h9⟩; rw [h9]; clear h9
  show pm_V _ _ _ _ 127 _ [] _
  refine pm_bl [(.aload_n 0, 1, 0, 0, 0), (.iconst 2, 1, 0, 0, 2), (.iconst 2, 1, 0, 0, 2)] (pc1 := 130) (lo1 := [some (.ref 47), some (.int x), none]) (st1 := [.int 2, .int 2, .ref 47]) (μ1 := pm_row μ 48 (lr_cpy (μ.1 50) (μ.1 48) 0 0 620)) (vc := True) rfl (by decide +kernel) rfl trivial ?_
  refine pm_callV2 mi_X10_refuses (ix := 94) (b := 47) (ci := 10) (kc2 := 0) (ks2 := 0) (As := [.int 2, .int 2]) (rest := []) (c_X10_refuses 2 2 (pm_row μ 48 (lr_cpy (μ.1 50) (μ.1 48) 0 0 620))) cal_X10_refuses lk10_94 (by decide +kernel) rfl (by decide +kernel) rfl rfl rfl rfl (Nat.le_of_ble_eq_true rfl) (by decide) (by decide) (fun _ _ h9 => h9.elim) ?_
  rintro _ _ ⟨rfl, h9⟩; rw [h9]; clear h9
  show pm_V _ _ _ _ 133 _ [.int 0] _
  exact pm_iret (ty := .int) rfl rfl (by decide) (by decide) (by decide +kernel) hP
set_option maxHeartbeats 4000000 in
set_option maxRecDepth 100000 in
theorem t_X10_drop_y {g : Nat → Int32} {c q : Nat} (P : Option Value → pm_Mm → Prop) (x : Int32) (t : Option Value) (μ : pm_Mm) (hM : μ.1 48 = g) (hG : lr_G g) (h167 : g 167 = nI q) (hr : lr_rr g = false) (hp : μ.1 47 5 = nI c) (hc8 : c ≤ 8) (hP : P (some (.int (nI q))) (lr_chg μ 50)) : pm_V mi_X10_dropRedirect (P, pm_NX, fun _ _ _ => True) 0 0 107 [some (.ref 47), some (.int x), t] [] μ := by
  refine pm_V.drop (lo' := [some (.ref 47), some (.int x), none]) ⟨rfl, rfl, trivial⟩ ?_
  refine pm_bl [(.aload_n 0, 1, 0, 0, 0)] (pc1 := 108) (lo1 := [some (.ref 47), some (.int x), none]) (st1 := [.ref 47]) (μ1 := μ) (vc := True) rfl (by decide +kernel) rfl trivial ?_
  refine pm_callV2 mi_X10_isRound (ix := 98) (b := 47) (ci := 10) (kc2 := 0) (ks2 := 0) (As := []) (rest := []) (c_X10_isRound μ hM hG) cal_X10_isRound lk10_98 (by decide +kernel) rfl (by decide +kernel) rfl rfl rfl rfl (Nat.le_of_ble_eq_true rfl) (by decide) (by decide) (fun _ _ h9 => h9.elim) ?_
  rintro _ _ ⟨rfl, h9⟩; rw [h9]; clear h9
  show pm_V _ _ _ _ 111 _ [.int (lr_b (lr_rr g))] _
  refine pm_ifb_eq (off := 23) 134 (by decide +kernel) (by decide) (fun (h111 : (lr_rr g) = false) => ?_) (fun (h9 : (lr_rr g) = true) => absurd (hr.symm.trans h9) (by decide))
  refine pm_bl [(.aload_n 0, 1, 0, 0, 0), (.aload_n 0, 1, 0, 0, 0), (.getfield 16, 3, 10, 2, 0)] (pc1 := 139) (lo1 := [some (.ref 47), some (.int x), none]) (st1 := [.ref 50, .ref 47]) (μ1 := μ) (vc := True) rfl (by decide +kernel) rfl trivial ?_
  refine pm_callV2 mi_X10_changes (ix := 66) (b := 47) (ci := 10) (kc2 := 0) (ks2 := 0) (As := [.ref 50]) (rest := []) (c_X10_changes_50 (c := c) μ hp hc8) cal_X10_changes lk10_66 (by decide +kernel) rfl (by decide +kernel) rfl rfl rfl rfl (Nat.le_of_ble_eq_true rfl) (by decide) (by decide) (fun _ _ h9 => h9.elim) ?_
  rintro _ μ1 ⟨rfl, hq⟩
  have hM1 : μ1.1 48 = g := by rw [hq, lr_chg_off (by decide) (by decide)]; exact hM
  show pm_V _ _ _ _ 142 _ [] _
  refine pm_bl [(.aload_n 0, 1, 0, 0, 0), (.getfield 7, 3, 10, 0, 0), (.sipush 167, 3, 0, 0, 167), (.iaload, 1, 0, 0, 0)] (pc1 := 150) (lo1 := [some (.ref 47), some (.int x), none]) (st1 := [.int (μ1.1 48 (167 : Int32).toNatClampNeg)]) (μ1 := μ1) (vc := vp_in 167 620 ∧ True) rfl (by decide +kernel) rfl ⟨(by unfold vp_in; decide), trivial⟩ ?_
  rw [show (167 : Int32).toNatClampNeg = 167 from by decide, hM1, h167]
  exact pm_iret (ty := .int) rfl rfl (by decide) (by decide) (by decide +kernel) (by rw [hq]; exact hP)
set_option maxHeartbeats 4000000 in
set_option maxRecDepth 100000 in
theorem l_X10_dropRedirect {g : Nat → Int32} {k q : Nat} (P : Option Value → pm_Mm → Prop) (hq : q < 12) (hk2 : k ≤ q) (μ : pm_Mm) (K : pm_V mi_X10_dropRedirect (P, pm_NX, fun _ _ _ => True) 0 0 107 [some (.ref 47), some (.int (nI k)), none] [] (pm_row μ 48 (lr_rmk g q k (168 + 5 * q)))) : ∀ n j : Nat, j + n = 168 + 5 * q → 168 + 5 * k ≤ j → ∀ μ1 : pm_Mm, μ1 = pm_row μ 48 (lr_rmk g q k j) → pm_V mi_X10_dropRedirect (P, pm_NX, fun _ _ _ => True) 0 0 69 [some (.ref 47), some (.int (nI k)), some (.int (nI j))] [] μ1 := by
  intro n
  induction n with
  | zero =>
    intro j hj h2 μ1 hm
    refine pm_bl [(.iload_n 2, 1, 2, 0, 0), (.sipush 168, 3, 0, 0, 168), (.iconst 5, 1, 0, 0, 5), (.aload_n 0, 1, 0, 0, 0), (.getfield 7, 3, 10, 0, 0), (.sipush 167, 3, 0, 0, 167), (.iaload, 1, 0, 0, 0)] (pc1 := 82) (lo1 := [some (.ref 47), some (.int (nI k)), some (.int (nI j))]) (st1 := [.int (μ1.1 48 (167 : Int32).toNatClampNeg), .int 5, .int 168, .int (nI j)]) (μ1 := μ1) (vc := vp_in 167 620 ∧ True) rfl (by decide +kernel) rfl ⟨(by unfold vp_in; decide), trivial⟩ ?_
    rw [show (167 : Int32).toNatClampNeg = 167 from by decide, show μ1.1 48 167 = nI q from by rw [hm, pm_row_at]; unfold lr_rmk; rw [if_neg (by omega), if_pos rfl]]
    refine pm_bl [(.imul, 1, 0, 0, 0), (.iadd, 1, 0, 0, 0)] (pc1 := 84) (lo1 := [some (.ref 47), some (.int (nI k)), some (.int (nI j))]) (st1 := [.int (168 + (5 * (nI q))), .int (nI j)]) (μ1 := μ1) (vc := True) rfl (by decide +kernel) rfl trivial ?_
    rw [(show (168 : Int32) + 5 * nI q = nI (168 + 5 * q) from by simp only [nI, Int32.ofNat_add, Int32.ofNat_mul]; rfl)]
    refine pm_icmp_ge (off := 23) 107 (by decide +kernel) (by decide) (fun (h84 : (nI (168 + 5 * q)) ≤ (nI j)) => ?_) (fun (h9 : ¬ ((nI (168 + 5 * q)) ≤ (nI j))) => absurd (nI_le (by omega) (by omega)) h9)
    rw [hm, show j = 168 + 5 * q from by omega]
    exact pm_V.drop (lo' := [some (.ref 47), some (.int (nI k)), none]) ⟨rfl, rfl, trivial⟩ K
  | succ n ih =>
    intro j hj h2 μ1 hm
    refine pm_bl [(.iload_n 2, 1, 2, 0, 0), (.sipush 168, 3, 0, 0, 168), (.iconst 5, 1, 0, 0, 5), (.aload_n 0, 1, 0, 0, 0), (.getfield 7, 3, 10, 0, 0), (.sipush 167, 3, 0, 0, 167), (.iaload, 1, 0, 0, 0)] (pc1 := 82) (lo1 := [some (.ref 47), some (.int (nI k)), some (.int (nI j))]) (st1 := [.int (μ1.1 48 (167 : Int32).toNatClampNeg), .int 5, .int 168, .int (nI j)]) (μ1 := μ1) (vc := vp_in 167 620 ∧ True) rfl (by decide +kernel) rfl ⟨(by unfold vp_in; decide), trivial⟩ ?_
    rw [show (167 : Int32).toNatClampNeg = 167 from by decide, show μ1.1 48 167 = nI q from by rw [hm, pm_row_at]; unfold lr_rmk; rw [if_neg (by omega), if_pos rfl]]
    refine pm_bl [(.imul, 1, 0, 0, 0), (.iadd, 1, 0, 0, 0)] (pc1 := 84) (lo1 := [some (.ref 47), some (.int (nI k)), some (.int (nI j))]) (st1 := [.int (168 + (5 * (nI q))), .int (nI j)]) (μ1 := μ1) (vc := True) rfl (by decide +kernel) rfl trivial ?_
    rw [(show (168 : Int32) + 5 * nI q = nI (168 + 5 * q) from by simp only [nI, Int32.ofNat_add, Int32.ofNat_mul]; rfl)]
    refine pm_icmp_ge (off := 23) 107 (by decide +kernel) (by decide) (fun (h9 : (nI (168 + 5 * q)) ≤ (nI j)) => absurd h9 (nI_ge (by omega) (by omega))) (fun (h84 : ¬ ((nI (168 + 5 * q)) ≤ (nI j))) => ?_)
    refine pm_bl [(.aload_n 0, 1, 0, 0, 0), (.getfield 7, 3, 10, 0, 0), (.iload_n 2, 1, 2, 0, 0), (.aload_n 0, 1, 0, 0, 0), (.getfield 7, 3, 10, 0, 0), (.iload_n 2, 1, 2, 0, 0), (.iconst 5, 1, 0, 0, 5), (.iadd, 1, 0, 0, 0)] (pc1 := 99) (lo1 := [some (.ref 47), some (.int (nI k)), some (.int (nI j))]) (st1 := [.int ((nI j) + 5), .ref 48, .int (nI j), .ref 48]) (μ1 := μ1) (vc := True) rfl (by decide +kernel) rfl trivial ?_
    rw [(show ((nI j) + 5 : Int32) = nI ((j) + 5) from by simp only [nI, Int32.ofNat_add, Int32.ofNat_mul]; rfl).trans (congrArg nI (show (j) + 5 = 5 + j from by omega))]
    refine pm_bl [(.iaload, 1, 0, 0, 0), (.iastore, 1, 0, 0, 0), (.iinc 2 1, 3, 2, 0, 1), (.goto (-35), 3, 69, 0, 0)] (pc1 := 69) (lo1 := [some (.ref 47), some (.int (nI k)), some (.int ((nI j) + 1))]) (st1 := []) (μ1 := pm_set μ1 48 ((nI j).toNatClampNeg) (μ1.1 48 (nI (5 + j)).toNatClampNeg)) (vc := vp_in (nI (5 + j)) 620 ∧ vp_in (nI j) 620 ∧ True) rfl (by decide +kernel) rfl ⟨(vp_in_nI (by omega) (by omega)), (vp_in_nI (by omega) (by omega)), trivial⟩ ?_
    try rw [nI_clamp (n := j) (by omega)]
    rw [nI_1]; refine ih (j + 1) (by omega) (by omega) _ ?_
    try rw [nI_clamp (n := j) (by omega)]
    try rw [nI_clamp (n := 5 + j) (by omega)]
    rw [hm, Nat.add_comm 5 j]
    exact lr_rmk_s h2
set_option maxHeartbeats 4000000 in
set_option maxRecDepth 100000 in
theorem c_X10_dropRedirect_no1 {g : Nat → Int32} {x : Int32} (μ : pm_Mm) (hM : μ.1 48 = g) (hG : lr_G g) (hb : lr_be x (nI (lr_n g 167)) = false) : pm_CT mi_X10_dropRedirect [.ref 47, .int x] μ (fun v μ2 => v = some (.int 0) ∧ μ2 = pm_set μ 47 7 1) pm_NX := by
  refine pm_CT_of (lo := [some (.ref 47), some (.int x), none]) (by decide +kernel) rfl rfl (by intro v hv; simp at hv; rcases hv with rfl | rfl <;> rfl) (Nat.le_of_ble_eq_true rfl) rfl ?_
  have hm1 := lr_mh hG; have hm2 := lr_mw hG; have hm3 := lr_mp hG; have hm4 := lr_mr hG; have hm5 := lr_ma hG; have hm6 := lr_ml hG
  refine pm_bl [(.aload_n 0, 1, 0, 0, 0), (.iload_n 1, 1, 1, 0, 0), (.iconst 0, 1, 0, 0, 0), (.aload_n 0, 1, 0, 0, 0), (.getfield 7, 3, 10, 0, 0), (.sipush 167, 3, 0, 0, 167), (.iaload, 1, 0, 0, 0)] (pc1 := 11) (lo1 := [some (.ref 47), some (.int x), none]) (st1 := [.int (μ.1 48 (167 : Int32).toNatClampNeg), .int 0, .int x, .ref 47]) (μ1 := μ) (vc := vp_in 167 620 ∧ True) rfl (by decide +kernel) rfl ⟨(by unfold vp_in; decide), trivial⟩ ?_
  rw [show (167 : Int32).toNatClampNeg = 167 from by decide, hM, lr_gr hG]
  refine pm_bl [(.iconst 1, 1, 0, 0, 1), (.isub, 1, 0, 0, 0)] (pc1 := 13) (lo1 := [some (.ref 47), some (.int x), none]) (st1 := [.int ((nI (lr_n g 167)) - 1), .int 0, .int x, .ref 47]) (μ1 := μ) (vc := True) rfl (by decide +kernel) rfl trivial ?_
  refine pm_callS2 mi_X10_in (ix := 45) (kc2 := 0) (ks2 := 0) (As := [.int x, .int 0, .int ((nI (lr_n g 167)) - 1)]) (rest := [.ref 47]) (c_X10_in x 0 ((nI (lr_n g 167)) - 1) μ) cal_X10_in lk10_45 (by decide +kernel) rfl (by decide +kernel) rfl rfl (Nat.le_of_ble_eq_true rfl) (by decide) (by decide) (fun _ _ h9 => h9.elim) ?_
  rintro _ _ ⟨rfl, h9⟩; rw [h9]; clear h9
  show pm_V _ _ _ _ 16 _ [.int (lr_b (lr_in x 0 ((nI (lr_n g 167)) - 1))), .ref 47] _
  refine pm_ifb_eq (off := 7) 23 (by decide +kernel) (by decide) (fun (h16 : (lr_in x 0 ((nI (lr_n g 167)) - 1)) = false) => ?_) (fun (h9 : (lr_in x 0 ((nI (lr_n g 167)) - 1)) = true) => absurd ((hb.symm.trans ((lr_in_be (by omega)).symm.trans h9))) (by decide))
  refine pm_bl [(.iconst 1, 1, 0, 0, 1), (.putfield 35, 3, 10, 7, 0), (.aload_n 0, 1, 0, 0, 0), (.getfield 35, 3, 10, 7, 0)] (pc1 := 31) (lo1 := [some (.ref 47), some (.int x), none]) (st1 := [.int ((pm_set μ 47 7 1).1 47 7)]) (μ1 := pm_set μ 47 7 1) (vc := True) rfl (by decide +kernel) rfl trivial ?_
  rw [show (pm_set μ 47 7 1).1 47 7 = 1 from by rw [pm_set_hit] <;> omega]
  refine pm_if_le (off := 5) 36 (by decide +kernel) (by decide) (fun h9 => absurd h9 (by decide)) (fun _ => ?_)
  refine pm_bl [(.iconst 0, 1, 0, 0, 0)] (pc1 := 35) (lo1 := [some (.ref 47), some (.int x), none]) (st1 := [.int 0]) (μ1 := pm_set μ 47 7 1) (vc := True) rfl (by decide +kernel) rfl trivial ?_
  exact pm_iret (ty := .int) rfl rfl (by decide) (by decide) (by decide +kernel) (⟨rfl, rfl⟩)
set_option maxHeartbeats 4000000 in
set_option maxRecDepth 100000 in
theorem c_X10_dropRedirect {g : Nat → Int32} {c k q : Nat} (μ : pm_Mm) (hM : μ.1 48 = g) (hG : lr_G g) (hp : μ.1 47 5 = nI c) (hc8 : c ≤ 8) (hn : lr_n g 167 = q + 1) (hk : k ≤ q) (hG2 : lr_G (lr_grem g k)) (hr : lr_rr (lr_grem g k) = false) : pm_CT mi_X10_dropRedirect [.ref 47, .int (nI k)] μ (fun v μ2 => v = some (.int (nI q)) ∧ ∃ M, lr_fsp (pm_set μ 47 7 0) M ∧ M.1 48 = lr_grem g k ∧ μ2 = lr_chg M 50) pm_NX := by
  refine pm_CT_of (lo := [some (.ref 47), some (.int (nI k)), none]) (by decide +kernel) rfl rfl (by intro v hv; simp at hv; rcases hv with rfl | rfl <;> rfl) (Nat.le_of_ble_eq_true rfl) rfl ?_
  have hm1 := lr_mh hG; have hm2 := lr_mw hG; have hm3 := lr_mp hG; have hm4 := lr_mr hG; have hm5 := lr_ma hG; have hm6 := lr_ml hG
  refine pm_bl [(.aload_n 0, 1, 0, 0, 0), (.iload_n 1, 1, 1, 0, 0), (.iconst 0, 1, 0, 0, 0), (.aload_n 0, 1, 0, 0, 0), (.getfield 7, 3, 10, 0, 0), (.sipush 167, 3, 0, 0, 167), (.iaload, 1, 0, 0, 0)] (pc1 := 11) (lo1 := [some (.ref 47), some (.int (nI k)), none]) (st1 := [.int (μ.1 48 (167 : Int32).toNatClampNeg), .int 0, .int (nI k), .ref 47]) (μ1 := μ) (vc := vp_in 167 620 ∧ True) rfl (by decide +kernel) rfl ⟨(by unfold vp_in; decide), trivial⟩ ?_
  rw [show (167 : Int32).toNatClampNeg = 167 from by decide, hM, lr_gr hG]
  refine pm_bl [(.iconst 1, 1, 0, 0, 1), (.isub, 1, 0, 0, 0)] (pc1 := 13) (lo1 := [some (.ref 47), some (.int (nI k)), none]) (st1 := [.int ((nI (lr_n g 167)) - 1), .int 0, .int (nI k), .ref 47]) (μ1 := μ) (vc := True) rfl (by decide +kernel) rfl trivial ?_
  refine pm_callS2 mi_X10_in (ix := 45) (kc2 := 0) (ks2 := 0) (As := [.int (nI k), .int 0, .int ((nI (lr_n g 167)) - 1)]) (rest := [.ref 47]) (c_X10_in (nI k) 0 ((nI (lr_n g 167)) - 1) μ) cal_X10_in lk10_45 (by decide +kernel) rfl (by decide +kernel) rfl rfl (Nat.le_of_ble_eq_true rfl) (by decide) (by decide) (fun _ _ h9 => h9.elim) ?_
  rintro _ _ ⟨rfl, h9⟩; rw [h9]; clear h9
  show pm_V _ _ _ _ 16 _ [.int (lr_b (lr_in (nI k) 0 ((nI (lr_n g 167)) - 1))), .ref 47] _
  refine pm_ifb_eq (off := 7) 23 (by decide +kernel) (by decide) (fun (h9 : (lr_in (nI k) 0 ((nI (lr_n g 167)) - 1)) = false) => absurd (h9.symm.trans ((lr_in_be (by omega)).trans (lr_be_1 (show k < lr_n g 167 by omega) (by omega)))) (by decide)) (fun (h16 : (lr_in (nI k) 0 ((nI (lr_n g 167)) - 1)) = true) => ?_)
  refine pm_bl [(.iconst 0, 1, 0, 0, 0), (.goto 4, 3, 24, 0, 0), (.putfield 35, 3, 10, 7, 0), (.aload_n 0, 1, 0, 0, 0), (.getfield 35, 3, 10, 7, 0)] (pc1 := 31) (lo1 := [some (.ref 47), some (.int (nI k)), none]) (st1 := [.int ((pm_set μ 47 7 0).1 47 7)]) (μ1 := pm_set μ 47 7 0) (vc := True) rfl (by decide +kernel) rfl trivial ?_
  rw [show (pm_set μ 47 7 0).1 47 7 = 0 from by rw [pm_set_hit] <;> omega]
  refine pm_if_le (off := 5) 36 (by decide +kernel) (by decide) (fun _ => ?_) (fun h9 => absurd h9 (by decide))
  refine pm_bl [(.aload_n 0, 1, 0, 0, 0), (.getfield 7, 3, 10, 0, 0), (.iconst 0, 1, 0, 0, 0), (.aload_n 0, 1, 0, 0, 0), (.getfield 16, 3, 10, 2, 0), (.iconst 0, 1, 0, 0, 0)] (pc1 := 46) (lo1 := [some (.ref 47), some (.int (nI k)), none]) (st1 := [.int 0, .ref 50, .int 0, .ref 48]) (μ1 := pm_set μ 47 7 0) (vc := True) rfl (by decide +kernel) rfl trivial ?_
  refine pm_callS2 mi_X10_copies (ix := 52) (kc2 := 0) (ks2 := 0) (As := [.ref 48, .int 0, .ref 50, .int 0]) (rest := []) (c_X10_cp_48_50 (i := 0) (j := 0) (pm_set μ 47 7 0) rfl rfl (by omega) (by omega)) cal_X10_copies lk10_52 (by decide +kernel) rfl (by decide +kernel) rfl rfl (Nat.le_of_ble_eq_true rfl) (by decide) (by decide) (fun _ _ h9 => h9.elim) ?_
  rintro _ _ ⟨rfl, h9⟩; rw [h9]; clear h9
  show pm_V _ _ _ _ 49 _ [] _
  refine pm_bl [(.aload_n 0, 1, 0, 0, 0), (.getfield 7, 3, 10, 0, 0), (.sipush 167, 3, 0, 0, 167), (.dup2, 1, 0, 0, 0), (.iaload, 1, 0, 0, 0)] (pc1 := 58) (lo1 := [some (.ref 47), some (.int (nI k)), none]) (st1 := [.int ((pm_row (pm_set μ 47 7 0) 50 (lr_cpy ((pm_set μ 47 7 0).1 48) ((pm_set μ 47 7 0).1 50) 0 0 620)).1 48 (167 : Int32).toNatClampNeg), .int 167, .ref 48]) (μ1 := pm_row (pm_set μ 47 7 0) 50 (lr_cpy ((pm_set μ 47 7 0).1 48) ((pm_set μ 47 7 0).1 50) 0 0 620)) (vc := vp_in 167 620 ∧ True) rfl (by decide +kernel) rfl ⟨(by unfold vp_in; decide), trivial⟩ ?_
  refine pm_bl [(.iconst 1, 1, 0, 0, 1), (.isub, 1, 0, 0, 0), (.iastore, 1, 0, 0, 0), (.sipush 168, 3, 0, 0, 168), (.iconst 5, 1, 0, 0, 5), (.iload_n 1, 1, 1, 0, 0), (.imul, 1, 0, 0, 0), (.iadd, 1, 0, 0, 0), (.istore_n 2, 1, 2, 0, 0)] (pc1 := 69) (lo1 := [some (.ref 47), some (.int (nI k)), some (.int (168 + (5 * (nI k))))]) (st1 := []) (μ1 := pm_set (pm_row (pm_set μ 47 7 0) 50 (lr_cpy ((pm_set μ 47 7 0).1 48) ((pm_set μ 47 7 0).1 50) 0 0 620)) 48 ((167 : Int32).toNatClampNeg) (((pm_row (pm_set μ 47 7 0) 50 (lr_cpy ((pm_set μ 47 7 0).1 48) ((pm_set μ 47 7 0).1 50) 0 0 620)).1 48 (167 : Int32).toNatClampNeg) - 1)) (vc := vp_in 167 620 ∧ True) rfl (by decide +kernel) rfl ⟨(by unfold vp_in; decide), trivial⟩ ?_
  try rw [show (167 : Int32).toNatClampNeg = 167 from by decide]
  rw [show (168 + (5 * (nI k)) : Int32) = nI (168 + 5 * k) from by simp only [nI, Int32.ofNat_add, Int32.ofNat_mul]; rfl]
  have hrow : lr_rmk g q k (168 + 5 * q) = lr_grem g k := by
    funext x; unfold lr_rmk lr_grem; rw [hn]; rfl
  refine l_X10_dropRedirect (g := g) (k := k) (q := q) _ (by omega) (by omega) (pm_row (pm_set μ 47 7 0) 50 (lr_cpy (μ.1 48) (μ.1 50) 0 0 620)) ?_ (168 + 5 * q - (168 + 5 * k)) (168 + 5 * k) (by omega) (by omega) _ ?_
  · rw [hrow]
    have hf : lr_fsp (pm_set μ 47 7 0) (pm_row (pm_row (pm_set μ 47 7 0) 50 (lr_cpy (μ.1 48) (μ.1 50) 0 0 620)) 48 (lr_grem g k)) := ⟨fun i h1 h2 => by rw [pm_row_off h1, pm_row_off h2], rfl, fun x hx => by rw [pm_row_off (by decide), pm_row_at, pm_set_off (by decide)]; unfold lr_cpy; rw [if_pos (by omega), Nat.zero_add, Nat.sub_zero]⟩
    exact t_X10_drop_y (q := q) _ (nI k) none _ (pm_row_at _ _ _) hG2 (by unfold lr_grem; rw [if_neg (by omega), if_pos rfl, hn]; rfl) hr (c := c) (by rw [pm_row_off (by decide), pm_row_off (by decide), pm_set_miss (Or.inr (by decide))]; exact hp) hc8 ⟨rfl, _, hf, pm_row_at _ _ _, rfl⟩
  · rw [lr_rmk_0, show (pm_row (pm_set μ 47 7 0) 50 (lr_cpy ((pm_set μ 47 7 0).1 48) ((pm_set μ 47 7 0).1 50) 0 0 620)).1 48 167 - 1 = nI q from by rw [pm_row_off (by decide), pm_set_off (by decide), hM, lr_gr hG, hn, nI_pred]]
    refine Prod.ext (funext fun r => funext fun x => ?_) rfl
    show (if r = 48 ∧ x = 167 then nI q else (pm_row (pm_set μ 47 7 0) 50 (lr_cpy ((pm_set μ 47 7 0).1 48) ((pm_set μ 47 7 0).1 50) 0 0 620)).1 r x) = (if r = 48 then upd g 167 (nI q) else (pm_row (pm_set μ 47 7 0) 50 (lr_cpy (μ.1 48) (μ.1 50) 0 0 620)).1 r) x
    rw [pm_set_off (by decide), pm_set_off (by decide)]
    by_cases hr8 : r = 48
    · subst hr8; rw [if_pos rfl, pm_row_off (by decide), pm_set_off (by decide), hM]; unfold upd
      by_cases hx : x = 167
      · rw [if_pos ⟨rfl, hx⟩, if_pos hx]
      · rw [if_neg (fun e => hx e.2), if_neg hx]
    · rw [if_neg (fun e => hr8 e.1), if_neg hr8]
set_option maxHeartbeats 4000000 in
set_option maxRecDepth 100000 in
theorem c_X10_dropRedirect_r {g : Nat → Int32} {k q : Nat} (μ : pm_Mm) (hM : μ.1 48 = g) (hG : lr_G g) (hn : lr_n g 167 = q + 1) (hk : k ≤ q) (hG2 : lr_G (lr_grem g k)) (hr : lr_rr (lr_grem g k) = true) : pm_CT mi_X10_dropRedirect [.ref 47, .int (nI k)] μ (fun v μ2 => v = some (.int 0) ∧ lr_fs (pm_set (pm_set (pm_set μ 47 7 0) 47 6 2) 47 7 2) μ2) pm_NX := by
  refine pm_CT_of (lo := [some (.ref 47), some (.int (nI k)), none]) (by decide +kernel) rfl rfl (by intro v hv; simp at hv; rcases hv with rfl | rfl <;> rfl) (Nat.le_of_ble_eq_true rfl) rfl ?_
  have hm1 := lr_mh hG; have hm2 := lr_mw hG; have hm3 := lr_mp hG; have hm4 := lr_mr hG; have hm5 := lr_ma hG; have hm6 := lr_ml hG
  refine pm_bl [(.aload_n 0, 1, 0, 0, 0), (.iload_n 1, 1, 1, 0, 0), (.iconst 0, 1, 0, 0, 0), (.aload_n 0, 1, 0, 0, 0), (.getfield 7, 3, 10, 0, 0), (.sipush 167, 3, 0, 0, 167), (.iaload, 1, 0, 0, 0)] (pc1 := 11) (lo1 := [some (.ref 47), some (.int (nI k)), none]) (st1 := [.int (μ.1 48 (167 : Int32).toNatClampNeg), .int 0, .int (nI k), .ref 47]) (μ1 := μ) (vc := vp_in 167 620 ∧ True) rfl (by decide +kernel) rfl ⟨(by unfold vp_in; decide), trivial⟩ ?_
  rw [show (167 : Int32).toNatClampNeg = 167 from by decide, hM, lr_gr hG]
  refine pm_bl [(.iconst 1, 1, 0, 0, 1), (.isub, 1, 0, 0, 0)] (pc1 := 13) (lo1 := [some (.ref 47), some (.int (nI k)), none]) (st1 := [.int ((nI (lr_n g 167)) - 1), .int 0, .int (nI k), .ref 47]) (μ1 := μ) (vc := True) rfl (by decide +kernel) rfl trivial ?_
  refine pm_callS2 mi_X10_in (ix := 45) (kc2 := 0) (ks2 := 0) (As := [.int (nI k), .int 0, .int ((nI (lr_n g 167)) - 1)]) (rest := [.ref 47]) (c_X10_in (nI k) 0 ((nI (lr_n g 167)) - 1) μ) cal_X10_in lk10_45 (by decide +kernel) rfl (by decide +kernel) rfl rfl (Nat.le_of_ble_eq_true rfl) (by decide) (by decide) (fun _ _ h9 => h9.elim) ?_
  rintro _ _ ⟨rfl, h9⟩; rw [h9]; clear h9
  show pm_V _ _ _ _ 16 _ [.int (lr_b (lr_in (nI k) 0 ((nI (lr_n g 167)) - 1))), .ref 47] _
  refine pm_ifb_eq (off := 7) 23 (by decide +kernel) (by decide) (fun (h9 : (lr_in (nI k) 0 ((nI (lr_n g 167)) - 1)) = false) => absurd (h9.symm.trans ((lr_in_be (by omega)).trans (lr_be_1 (show k < lr_n g 167 by omega) (by omega)))) (by decide)) (fun (h16 : (lr_in (nI k) 0 ((nI (lr_n g 167)) - 1)) = true) => ?_)
  refine pm_bl [(.iconst 0, 1, 0, 0, 0), (.goto 4, 3, 24, 0, 0), (.putfield 35, 3, 10, 7, 0), (.aload_n 0, 1, 0, 0, 0), (.getfield 35, 3, 10, 7, 0)] (pc1 := 31) (lo1 := [some (.ref 47), some (.int (nI k)), none]) (st1 := [.int ((pm_set μ 47 7 0).1 47 7)]) (μ1 := pm_set μ 47 7 0) (vc := True) rfl (by decide +kernel) rfl trivial ?_
  rw [show (pm_set μ 47 7 0).1 47 7 = 0 from by rw [pm_set_hit] <;> omega]
  refine pm_if_le (off := 5) 36 (by decide +kernel) (by decide) (fun _ => ?_) (fun h9 => absurd h9 (by decide))
  refine pm_bl [(.aload_n 0, 1, 0, 0, 0), (.getfield 7, 3, 10, 0, 0), (.iconst 0, 1, 0, 0, 0), (.aload_n 0, 1, 0, 0, 0), (.getfield 16, 3, 10, 2, 0), (.iconst 0, 1, 0, 0, 0)] (pc1 := 46) (lo1 := [some (.ref 47), some (.int (nI k)), none]) (st1 := [.int 0, .ref 50, .int 0, .ref 48]) (μ1 := pm_set μ 47 7 0) (vc := True) rfl (by decide +kernel) rfl trivial ?_
  refine pm_callS2 mi_X10_copies (ix := 52) (kc2 := 0) (ks2 := 0) (As := [.ref 48, .int 0, .ref 50, .int 0]) (rest := []) (c_X10_cp_48_50 (i := 0) (j := 0) (pm_set μ 47 7 0) rfl rfl (by omega) (by omega)) cal_X10_copies lk10_52 (by decide +kernel) rfl (by decide +kernel) rfl rfl (Nat.le_of_ble_eq_true rfl) (by decide) (by decide) (fun _ _ h9 => h9.elim) ?_
  rintro _ _ ⟨rfl, h9⟩; rw [h9]; clear h9
  show pm_V _ _ _ _ 49 _ [] _
  refine pm_bl [(.aload_n 0, 1, 0, 0, 0), (.getfield 7, 3, 10, 0, 0), (.sipush 167, 3, 0, 0, 167), (.dup2, 1, 0, 0, 0), (.iaload, 1, 0, 0, 0)] (pc1 := 58) (lo1 := [some (.ref 47), some (.int (nI k)), none]) (st1 := [.int ((pm_row (pm_set μ 47 7 0) 50 (lr_cpy ((pm_set μ 47 7 0).1 48) ((pm_set μ 47 7 0).1 50) 0 0 620)).1 48 (167 : Int32).toNatClampNeg), .int 167, .ref 48]) (μ1 := pm_row (pm_set μ 47 7 0) 50 (lr_cpy ((pm_set μ 47 7 0).1 48) ((pm_set μ 47 7 0).1 50) 0 0 620)) (vc := vp_in 167 620 ∧ True) rfl (by decide +kernel) rfl ⟨(by unfold vp_in; decide), trivial⟩ ?_
  refine pm_bl [(.iconst 1, 1, 0, 0, 1), (.isub, 1, 0, 0, 0), (.iastore, 1, 0, 0, 0), (.sipush 168, 3, 0, 0, 168), (.iconst 5, 1, 0, 0, 5), (.iload_n 1, 1, 1, 0, 0), (.imul, 1, 0, 0, 0), (.iadd, 1, 0, 0, 0), (.istore_n 2, 1, 2, 0, 0)] (pc1 := 69) (lo1 := [some (.ref 47), some (.int (nI k)), some (.int (168 + (5 * (nI k))))]) (st1 := []) (μ1 := pm_set (pm_row (pm_set μ 47 7 0) 50 (lr_cpy ((pm_set μ 47 7 0).1 48) ((pm_set μ 47 7 0).1 50) 0 0 620)) 48 ((167 : Int32).toNatClampNeg) (((pm_row (pm_set μ 47 7 0) 50 (lr_cpy ((pm_set μ 47 7 0).1 48) ((pm_set μ 47 7 0).1 50) 0 0 620)).1 48 (167 : Int32).toNatClampNeg) - 1)) (vc := vp_in 167 620 ∧ True) rfl (by decide +kernel) rfl ⟨(by unfold vp_in; decide), trivial⟩ ?_
  try rw [show (167 : Int32).toNatClampNeg = 167 from by decide]
  rw [show (168 + (5 * (nI k)) : Int32) = nI (168 + 5 * k) from by simp only [nI, Int32.ofNat_add, Int32.ofNat_mul]; rfl]
  have hrow : lr_rmk g q k (168 + 5 * q) = lr_grem g k := by
    funext x; unfold lr_rmk lr_grem; rw [hn]; rfl
  refine l_X10_dropRedirect (g := g) (k := k) (q := q) _ (by omega) (by omega) (pm_row (pm_set μ 47 7 0) 50 (lr_cpy (μ.1 48) (μ.1 50) 0 0 620)) ?_ (168 + 5 * q - (168 + 5 * k)) (168 + 5 * k) (by omega) (by omega) _ ?_
  · rw [hrow]
    have hf : lr_fsp (pm_set μ 47 7 0) (pm_row (pm_row (pm_set μ 47 7 0) 50 (lr_cpy (μ.1 48) (μ.1 50) 0 0 620)) 48 (lr_grem g k)) := ⟨fun i h1 h2 => by rw [pm_row_off h1, pm_row_off h2], rfl, fun x hx => by rw [pm_row_off (by decide), pm_row_at, pm_set_off (by decide)]; unfold lr_cpy; rw [if_pos (by omega), Nat.zero_add, Nat.sub_zero]⟩
    refine t_X10_drop_r (c := 0) (q := q) _ (nI k) none _ (pm_row_at _ _ _) hG2 (by unfold lr_grem; rw [if_neg (by omega), if_pos rfl, hn]; rfl) hr ⟨rfl, ((lr_fsp.bk hf ?_).set (by decide)).set (by decide)⟩
    intro x hx; rw [pm_row_at, pm_set_off (by decide), hM]; unfold lr_grem; rw [if_neg (by omega), if_neg (by omega)]
  · rw [lr_rmk_0, show (pm_row (pm_set μ 47 7 0) 50 (lr_cpy ((pm_set μ 47 7 0).1 48) ((pm_set μ 47 7 0).1 50) 0 0 620)).1 48 167 - 1 = nI q from by rw [pm_row_off (by decide), pm_set_off (by decide), hM, lr_gr hG, hn, nI_pred]]
    refine Prod.ext (funext fun r => funext fun x => ?_) rfl
    show (if r = 48 ∧ x = 167 then nI q else (pm_row (pm_set μ 47 7 0) 50 (lr_cpy ((pm_set μ 47 7 0).1 48) ((pm_set μ 47 7 0).1 50) 0 0 620)).1 r x) = (if r = 48 then upd g 167 (nI q) else (pm_row (pm_set μ 47 7 0) 50 (lr_cpy (μ.1 48) (μ.1 50) 0 0 620)).1 r) x
    rw [pm_set_off (by decide), pm_set_off (by decide)]
    by_cases hr8 : r = 48
    · subst hr8; rw [if_pos rfl, pm_row_off (by decide), pm_set_off (by decide), hM]; unfold upd
      by_cases hx : x = 167
      · rw [if_pos ⟨rfl, hx⟩, if_pos hx]
      · rw [if_neg (fun e => hx e.2), if_neg hx]
    · rw [if_neg (fun e => hr8 e.1), if_neg hr8]
set_option maxHeartbeats 4000000 in
set_option maxRecDepth 100000 in
theorem c_X10_redirectPerson_full {g : Nat → Int32} {h q : Nat} {z u : Int32} (μ : pm_Mm) (hM : μ.1 48 = g) (hG : lr_G g) (hh : h < lr_n g 35) (hq2 : q < lr_n g 2) (hl : lr_dys z u = true) (hn : lr_n g 167 = 12) : pm_CT mi_X10_redirectPerson [.ref 47, .int (nI h), .int (nI q), .int z, .int u] μ (fun v μ2 => v = some (.int 0) ∧ μ2 = pm_set (pm_set (pm_set μ 47 7 0) 47 6 1) 47 7 3) pm_NX := by
  refine pm_CT_of (lo := [some (.ref 47), some (.int (nI h)), some (.int (nI q)), some (.int z), some (.int u)]) (by decide +kernel) rfl rfl (by intro v hv; simp at hv; rcases hv with rfl | rfl | rfl | rfl | rfl <;> rfl) (Nat.le_of_ble_eq_true rfl) rfl ?_
  have hm1 := lr_mh hG; have hm2 := lr_mw hG; have hm3 := lr_mp hG; have hm4 := lr_mr hG; have hm5 := lr_ma hG; have hm6 := lr_ml hG
  refine pm_bl [(.aload_n 0, 1, 0, 0, 0), (.aload_n 0, 1, 0, 0, 0), (.iload_n 1, 1, 1, 0, 0)] (pc1 := 3) (lo1 := [some (.ref 47), some (.int (nI h)), some (.int (nI q)), some (.int z), some (.int u)]) (st1 := [.int (nI h), .ref 47, .ref 47]) (μ1 := μ) (vc := True) rfl (by decide +kernel) rfl trivial ?_
  refine pm_callV2 mi_X10_isPerson (ix := 102) (b := 47) (ci := 10) (kc2 := 0) (ks2 := 0) (As := [.int (nI h)]) (rest := [.ref 47]) (c_X10_isPerson (nI h) μ hM hG) cal_X10_isPerson lk10_102 (by decide +kernel) rfl (by decide +kernel) rfl rfl rfl rfl (Nat.le_of_ble_eq_true rfl) (by decide) (by decide) (fun _ _ h9 => h9.elim) ?_
  rintro _ _ ⟨rfl, h9⟩; rw [h9]; clear h9
  show pm_V _ _ _ _ 6 _ [.int (lr_b (lr_be (nI h) (nI (lr_n g 35)))), .ref 47] _
  refine pm_ifb_eq (off := 11) 17 (by decide +kernel) (by decide) (fun (h9 : (lr_be (nI h) (nI (lr_n g 35))) = false) => absurd (h9.symm.trans (lr_be_1 hh (by omega))) (by decide)) (fun (h6 : (lr_be (nI h) (nI (lr_n g 35))) = true) => ?_)
  refine pm_bl [(.aload_n 0, 1, 0, 0, 0), (.iload_n 2, 1, 2, 0, 0)] (pc1 := 11) (lo1 := [some (.ref 47), some (.int (nI h)), some (.int (nI q)), some (.int z), some (.int u)]) (st1 := [.int (nI q), .ref 47, .ref 47]) (μ1 := μ) (vc := True) rfl (by decide +kernel) rfl trivial ?_
  refine pm_callV2 mi_X10_isHouse (ix := 70) (b := 47) (ci := 10) (kc2 := 0) (ks2 := 0) (As := [.int (nI q)]) (rest := [.ref 47]) (c_X10_isHouse (nI q) μ hM hG) cal_X10_isHouse lk10_70 (by decide +kernel) rfl (by decide +kernel) rfl rfl rfl rfl (Nat.le_of_ble_eq_true rfl) (by decide) (by decide) (fun _ _ h9 => h9.elim) ?_
  rintro _ _ ⟨rfl, h9⟩; rw [h9]; clear h9
  show pm_V _ _ _ _ 14 _ [.int (lr_b (lr_be (nI q) (nI (lr_n g 2)))), .ref 47] _
  refine pm_ifb_ne (off := 7) 21 (by decide +kernel) (by decide) (fun (h14 : (lr_be (nI q) (nI (lr_n g 2))) = true) => ?_) (fun (h9 : (lr_be (nI q) (nI (lr_n g 2))) = false) => absurd (h9.symm.trans (lr_be_1 hq2 (by omega))) (by decide))
  refine pm_bl [(.iload_n 3, 1, 3, 0, 0), (.iload 4, 2, 4, 0, 0)] (pc1 := 24) (lo1 := [some (.ref 47), some (.int (nI h)), some (.int (nI q)), some (.int z), some (.int u)]) (st1 := [.int u, .int z, .ref 47]) (μ1 := μ) (vc := True) rfl (by decide +kernel) rfl trivial ?_
  refine pm_callS2 mi_X10_areDays (ix := 105) (kc2 := 0) (ks2 := 0) (As := [.int z, .int u]) (rest := [.ref 47]) (c_X10_areDays z u μ) cal_X10_areDays lk10_105 (by decide +kernel) rfl (by decide +kernel) rfl rfl (Nat.le_of_ble_eq_true rfl) (by decide) (by decide) (fun _ _ h9 => h9.elim) ?_
  rintro _ _ ⟨rfl, h9⟩; rw [h9]; clear h9
  show pm_V _ _ _ _ 27 _ [.int (lr_b (lr_dys z u)), .ref 47] _
  refine pm_ifb_eq (off := 7) 34 (by decide +kernel) (by decide) (fun (h9 : (lr_dys z u) = false) => absurd (hl.symm.trans h9) (by decide)) (fun (h27 : (lr_dys z u) = true) => ?_)
  refine pm_bl [(.iconst 0, 1, 0, 0, 0), (.goto 4, 3, 35, 0, 0), (.putfield 35, 3, 10, 7, 0), (.aload_n 0, 1, 0, 0, 0), (.getfield 35, 3, 10, 7, 0)] (pc1 := 42) (lo1 := [some (.ref 47), some (.int (nI h)), some (.int (nI q)), some (.int z), some (.int u)]) (st1 := [.int ((pm_set μ 47 7 0).1 47 7)]) (μ1 := pm_set μ 47 7 0) (vc := True) rfl (by decide +kernel) rfl trivial ?_
  rw [show (pm_set μ 47 7 0).1 47 7 = 0 from by rw [pm_set_hit] <;> omega]
  refine pm_if_le (off := 7) 49 (by decide +kernel) (by decide) (fun _ => ?_) (fun h9 => absurd h9 (by decide))
  refine pm_bl [(.aload_n 0, 1, 0, 0, 0), (.iconst 0, 1, 0, 0, 0), (.iload_n 1, 1, 1, 0, 0), (.iload_n 2, 1, 2, 0, 0), (.iload_n 3, 1, 3, 0, 0), (.iload 4, 2, 4, 0, 0)] (pc1 := 56) (lo1 := [some (.ref 47), some (.int (nI h)), some (.int (nI q)), some (.int z), some (.int u)]) (st1 := [.int u, .int z, .int (nI q), .int (nI h), .int 0, .ref 47]) (μ1 := pm_set μ 47 7 0) (vc := True) rfl (by decide +kernel) rfl trivial ?_
  refine pm_callV2 mi_X10_redirects (ix := 108) (b := 47) (ci := 10) (kc2 := 0) (ks2 := 0) (As := [.int 0, .int (nI h), .int (nI q), .int z, .int u]) (rest := []) (c_X10_redirects_full0 (nI h) (nI q) z u (pm_set μ 47 7 0) (by rw [pm_set_off (by decide)]; exact hM) hG hn) cal_X10_redirects lk10_108 (by decide +kernel) rfl (by decide +kernel) rfl rfl rfl rfl (Nat.le_of_ble_eq_true rfl) (by decide) (by decide) (fun _ _ h9 => h9.elim) ?_
  rintro _ _ ⟨rfl, h9⟩; rw [h9]; clear h9
  show pm_V _ _ _ _ 59 _ [.int 0] _
  exact pm_iret (ty := .int) rfl rfl (by decide) (by decide) (by decide +kernel) (⟨rfl, rfl⟩)
set_option maxHeartbeats 4000000 in
set_option maxRecDepth 100000 in
theorem c_X10_redirectPerson {g : Nat → Int32} {c h q : Nat} {z u : Int32} (μ : pm_Mm) (hM : μ.1 48 = g) (hG : lr_G g) (hh : h < lr_n g 35) (hq2 : q < lr_n g 2) (hl : lr_dys z u = true) (hp : μ.1 47 5 = nI c) (hc8 : c ≤ 8) (hn : lr_n g 167 < 12) : pm_CT mi_X10_redirectPerson [.ref 47, .int (nI h), .int (nI q), .int z, .int u] μ (fun v μ2 => v = some (.int (nI (lr_n g 167))) ∧ ∃ M, lr_fsp (pm_set μ 47 7 0) M ∧ M.1 48 = lr_gX7_add g 0 (nI h) (nI q) z u ∧ μ2 = lr_chg M 50) pm_NX := by
  refine pm_CT_of (lo := [some (.ref 47), some (.int (nI h)), some (.int (nI q)), some (.int z), some (.int u)]) (by decide +kernel) rfl rfl (by intro v hv; simp at hv; rcases hv with rfl | rfl | rfl | rfl | rfl <;> rfl) (Nat.le_of_ble_eq_true rfl) rfl ?_
  have hm1 := lr_mh hG; have hm2 := lr_mw hG; have hm3 := lr_mp hG; have hm4 := lr_mr hG; have hm5 := lr_ma hG; have hm6 := lr_ml hG
  refine pm_bl [(.aload_n 0, 1, 0, 0, 0), (.aload_n 0, 1, 0, 0, 0), (.iload_n 1, 1, 1, 0, 0)] (pc1 := 3) (lo1 := [some (.ref 47), some (.int (nI h)), some (.int (nI q)), some (.int z), some (.int u)]) (st1 := [.int (nI h), .ref 47, .ref 47]) (μ1 := μ) (vc := True) rfl (by decide +kernel) rfl trivial ?_
  refine pm_callV2 mi_X10_isPerson (ix := 102) (b := 47) (ci := 10) (kc2 := 0) (ks2 := 0) (As := [.int (nI h)]) (rest := [.ref 47]) (c_X10_isPerson (nI h) μ hM hG) cal_X10_isPerson lk10_102 (by decide +kernel) rfl (by decide +kernel) rfl rfl rfl rfl (Nat.le_of_ble_eq_true rfl) (by decide) (by decide) (fun _ _ h9 => h9.elim) ?_
  rintro _ _ ⟨rfl, h9⟩; rw [h9]; clear h9
  show pm_V _ _ _ _ 6 _ [.int (lr_b (lr_be (nI h) (nI (lr_n g 35)))), .ref 47] _
  refine pm_ifb_eq (off := 11) 17 (by decide +kernel) (by decide) (fun (h9 : (lr_be (nI h) (nI (lr_n g 35))) = false) => absurd (h9.symm.trans (lr_be_1 hh (by omega))) (by decide)) (fun (h6 : (lr_be (nI h) (nI (lr_n g 35))) = true) => ?_)
  refine pm_bl [(.aload_n 0, 1, 0, 0, 0), (.iload_n 2, 1, 2, 0, 0)] (pc1 := 11) (lo1 := [some (.ref 47), some (.int (nI h)), some (.int (nI q)), some (.int z), some (.int u)]) (st1 := [.int (nI q), .ref 47, .ref 47]) (μ1 := μ) (vc := True) rfl (by decide +kernel) rfl trivial ?_
  refine pm_callV2 mi_X10_isHouse (ix := 70) (b := 47) (ci := 10) (kc2 := 0) (ks2 := 0) (As := [.int (nI q)]) (rest := [.ref 47]) (c_X10_isHouse (nI q) μ hM hG) cal_X10_isHouse lk10_70 (by decide +kernel) rfl (by decide +kernel) rfl rfl rfl rfl (Nat.le_of_ble_eq_true rfl) (by decide) (by decide) (fun _ _ h9 => h9.elim) ?_
  rintro _ _ ⟨rfl, h9⟩; rw [h9]; clear h9
  show pm_V _ _ _ _ 14 _ [.int (lr_b (lr_be (nI q) (nI (lr_n g 2)))), .ref 47] _
  refine pm_ifb_ne (off := 7) 21 (by decide +kernel) (by decide) (fun (h14 : (lr_be (nI q) (nI (lr_n g 2))) = true) => ?_) (fun (h9 : (lr_be (nI q) (nI (lr_n g 2))) = false) => absurd (h9.symm.trans (lr_be_1 hq2 (by omega))) (by decide))
  refine pm_bl [(.iload_n 3, 1, 3, 0, 0), (.iload 4, 2, 4, 0, 0)] (pc1 := 24) (lo1 := [some (.ref 47), some (.int (nI h)), some (.int (nI q)), some (.int z), some (.int u)]) (st1 := [.int u, .int z, .ref 47]) (μ1 := μ) (vc := True) rfl (by decide +kernel) rfl trivial ?_
  refine pm_callS2 mi_X10_areDays (ix := 105) (kc2 := 0) (ks2 := 0) (As := [.int z, .int u]) (rest := [.ref 47]) (c_X10_areDays z u μ) cal_X10_areDays lk10_105 (by decide +kernel) rfl (by decide +kernel) rfl rfl (Nat.le_of_ble_eq_true rfl) (by decide) (by decide) (fun _ _ h9 => h9.elim) ?_
  rintro _ _ ⟨rfl, h9⟩; rw [h9]; clear h9
  show pm_V _ _ _ _ 27 _ [.int (lr_b (lr_dys z u)), .ref 47] _
  refine pm_ifb_eq (off := 7) 34 (by decide +kernel) (by decide) (fun (h9 : (lr_dys z u) = false) => absurd (hl.symm.trans h9) (by decide)) (fun (h27 : (lr_dys z u) = true) => ?_)
  refine pm_bl [(.iconst 0, 1, 0, 0, 0), (.goto 4, 3, 35, 0, 0), (.putfield 35, 3, 10, 7, 0), (.aload_n 0, 1, 0, 0, 0), (.getfield 35, 3, 10, 7, 0)] (pc1 := 42) (lo1 := [some (.ref 47), some (.int (nI h)), some (.int (nI q)), some (.int z), some (.int u)]) (st1 := [.int ((pm_set μ 47 7 0).1 47 7)]) (μ1 := pm_set μ 47 7 0) (vc := True) rfl (by decide +kernel) rfl trivial ?_
  rw [show (pm_set μ 47 7 0).1 47 7 = 0 from by rw [pm_set_hit] <;> omega]
  refine pm_if_le (off := 7) 49 (by decide +kernel) (by decide) (fun _ => ?_) (fun h9 => absurd h9 (by decide))
  refine pm_bl [(.aload_n 0, 1, 0, 0, 0), (.iconst 0, 1, 0, 0, 0), (.iload_n 1, 1, 1, 0, 0), (.iload_n 2, 1, 2, 0, 0), (.iload_n 3, 1, 3, 0, 0), (.iload 4, 2, 4, 0, 0)] (pc1 := 56) (lo1 := [some (.ref 47), some (.int (nI h)), some (.int (nI q)), some (.int z), some (.int u)]) (st1 := [.int u, .int z, .int (nI q), .int (nI h), .int 0, .ref 47]) (μ1 := pm_set μ 47 7 0) (vc := True) rfl (by decide +kernel) rfl trivial ?_
  refine pm_callV2 mi_X10_redirects (ix := 108) (b := 47) (ci := 10) (kc2 := 0) (ks2 := 0) (As := [.int 0, .int (nI h), .int (nI q), .int z, .int u]) (rest := []) (c_X10_redirects_p (c := c) (nI h) (nI q) z u (pm_set μ 47 7 0) (by rw [pm_set_off (by decide)]; exact hM) hG (by rw [pm_set_miss (Or.inr (by decide))]; exact hp) hc8 hn) cal_X10_redirects lk10_108 (by decide +kernel) rfl (by decide +kernel) rfl rfl rfl rfl (Nat.le_of_ble_eq_true rfl) (by decide) (by decide) (fun _ _ h9 => h9.elim) ?_
  rintro _ μ1 ⟨rfl, h8⟩
  show pm_V _ _ _ _ 59 _ [.int (nI (lr_n g 167))] _
  exact pm_iret (ty := .int) rfl rfl (by decide) (by decide) (by decide +kernel) (⟨rfl, h8⟩)
set_option maxHeartbeats 4000000 in
set_option maxRecDepth 100000 in
theorem c_X10_redirectHouse_full {g : Nat → Int32} {h q : Nat} {z u : Int32} (μ : pm_Mm) (hM : μ.1 48 = g) (hG : lr_G g) (hh : h < lr_n g 2) (hq2 : q < lr_n g 2) (hl : lr_dys z u = true) (hn : lr_n g 167 = 12) : pm_CT mi_X10_redirectHouse [.ref 47, .int (nI h), .int (nI q), .int z, .int u] μ (fun v μ2 => v = some (.int 0) ∧ μ2 = pm_set (pm_set (pm_set μ 47 7 0) 47 6 1) 47 7 3) pm_NX := by
  refine pm_CT_of (lo := [some (.ref 47), some (.int (nI h)), some (.int (nI q)), some (.int z), some (.int u)]) (by decide +kernel) rfl rfl (by intro v hv; simp at hv; rcases hv with rfl | rfl | rfl | rfl | rfl <;> rfl) (Nat.le_of_ble_eq_true rfl) rfl ?_
  have hm1 := lr_mh hG; have hm2 := lr_mw hG; have hm3 := lr_mp hG; have hm4 := lr_mr hG; have hm5 := lr_ma hG; have hm6 := lr_ml hG
  refine pm_bl [(.aload_n 0, 1, 0, 0, 0), (.aload_n 0, 1, 0, 0, 0), (.iload_n 1, 1, 1, 0, 0)] (pc1 := 3) (lo1 := [some (.ref 47), some (.int (nI h)), some (.int (nI q)), some (.int z), some (.int u)]) (st1 := [.int (nI h), .ref 47, .ref 47]) (μ1 := μ) (vc := True) rfl (by decide +kernel) rfl trivial ?_
  refine pm_callV2 mi_X10_isHouse (ix := 70) (b := 47) (ci := 10) (kc2 := 0) (ks2 := 0) (As := [.int (nI h)]) (rest := [.ref 47]) (c_X10_isHouse (nI h) μ hM hG) cal_X10_isHouse lk10_70 (by decide +kernel) rfl (by decide +kernel) rfl rfl rfl rfl (Nat.le_of_ble_eq_true rfl) (by decide) (by decide) (fun _ _ h9 => h9.elim) ?_
  rintro _ _ ⟨rfl, h9⟩; rw [h9]; clear h9
  show pm_V _ _ _ _ 6 _ [.int (lr_b (lr_be (nI h) (nI (lr_n g 2)))), .ref 47] _
  refine pm_ifb_eq (off := 11) 17 (by decide +kernel) (by decide) (fun (h9 : (lr_be (nI h) (nI (lr_n g 2))) = false) => absurd (h9.symm.trans (lr_be_1 hh (by omega))) (by decide)) (fun (h6 : (lr_be (nI h) (nI (lr_n g 2))) = true) => ?_)
  refine pm_bl [(.aload_n 0, 1, 0, 0, 0), (.iload_n 2, 1, 2, 0, 0)] (pc1 := 11) (lo1 := [some (.ref 47), some (.int (nI h)), some (.int (nI q)), some (.int z), some (.int u)]) (st1 := [.int (nI q), .ref 47, .ref 47]) (μ1 := μ) (vc := True) rfl (by decide +kernel) rfl trivial ?_
  refine pm_callV2 mi_X10_isHouse (ix := 70) (b := 47) (ci := 10) (kc2 := 0) (ks2 := 0) (As := [.int (nI q)]) (rest := [.ref 47]) (c_X10_isHouse (nI q) μ hM hG) cal_X10_isHouse lk10_70 (by decide +kernel) rfl (by decide +kernel) rfl rfl rfl rfl (Nat.le_of_ble_eq_true rfl) (by decide) (by decide) (fun _ _ h9 => h9.elim) ?_
  rintro _ _ ⟨rfl, h9⟩; rw [h9]; clear h9
  show pm_V _ _ _ _ 14 _ [.int (lr_b (lr_be (nI q) (nI (lr_n g 2)))), .ref 47] _
  refine pm_ifb_ne (off := 7) 21 (by decide +kernel) (by decide) (fun (h14 : (lr_be (nI q) (nI (lr_n g 2))) = true) => ?_) (fun (h9 : (lr_be (nI q) (nI (lr_n g 2))) = false) => absurd (h9.symm.trans (lr_be_1 hq2 (by omega))) (by decide))
  refine pm_bl [(.iload_n 3, 1, 3, 0, 0), (.iload 4, 2, 4, 0, 0)] (pc1 := 24) (lo1 := [some (.ref 47), some (.int (nI h)), some (.int (nI q)), some (.int z), some (.int u)]) (st1 := [.int u, .int z, .ref 47]) (μ1 := μ) (vc := True) rfl (by decide +kernel) rfl trivial ?_
  refine pm_callS2 mi_X10_areDays (ix := 105) (kc2 := 0) (ks2 := 0) (As := [.int z, .int u]) (rest := [.ref 47]) (c_X10_areDays z u μ) cal_X10_areDays lk10_105 (by decide +kernel) rfl (by decide +kernel) rfl rfl (Nat.le_of_ble_eq_true rfl) (by decide) (by decide) (fun _ _ h9 => h9.elim) ?_
  rintro _ _ ⟨rfl, h9⟩; rw [h9]; clear h9
  show pm_V _ _ _ _ 27 _ [.int (lr_b (lr_dys z u)), .ref 47] _
  refine pm_ifb_eq (off := 7) 34 (by decide +kernel) (by decide) (fun (h9 : (lr_dys z u) = false) => absurd (hl.symm.trans h9) (by decide)) (fun (h27 : (lr_dys z u) = true) => ?_)
  refine pm_bl [(.iconst 0, 1, 0, 0, 0), (.goto 4, 3, 35, 0, 0), (.putfield 35, 3, 10, 7, 0), (.aload_n 0, 1, 0, 0, 0), (.getfield 35, 3, 10, 7, 0)] (pc1 := 42) (lo1 := [some (.ref 47), some (.int (nI h)), some (.int (nI q)), some (.int z), some (.int u)]) (st1 := [.int ((pm_set μ 47 7 0).1 47 7)]) (μ1 := pm_set μ 47 7 0) (vc := True) rfl (by decide +kernel) rfl trivial ?_
  rw [show (pm_set μ 47 7 0).1 47 7 = 0 from by rw [pm_set_hit] <;> omega]
  refine pm_if_le (off := 7) 49 (by decide +kernel) (by decide) (fun _ => ?_) (fun h9 => absurd h9 (by decide))
  refine pm_bl [(.aload_n 0, 1, 0, 0, 0), (.iconst 1, 1, 0, 0, 1), (.iload_n 1, 1, 1, 0, 0), (.iload_n 2, 1, 2, 0, 0), (.iload_n 3, 1, 3, 0, 0), (.iload 4, 2, 4, 0, 0)] (pc1 := 56) (lo1 := [some (.ref 47), some (.int (nI h)), some (.int (nI q)), some (.int z), some (.int u)]) (st1 := [.int u, .int z, .int (nI q), .int (nI h), .int 1, .ref 47]) (μ1 := pm_set μ 47 7 0) (vc := True) rfl (by decide +kernel) rfl trivial ?_
  refine pm_callV2 mi_X10_redirects (ix := 108) (b := 47) (ci := 10) (kc2 := 0) (ks2 := 0) (As := [.int 1, .int (nI h), .int (nI q), .int z, .int u]) (rest := []) (c_X10_redirects_full1 (nI h) (nI q) z u (pm_set μ 47 7 0) (by rw [pm_set_off (by decide)]; exact hM) hG hn) cal_X10_redirects lk10_108 (by decide +kernel) rfl (by decide +kernel) rfl rfl rfl rfl (Nat.le_of_ble_eq_true rfl) (by decide) (by decide) (fun _ _ h9 => h9.elim) ?_
  rintro _ _ ⟨rfl, h9⟩; rw [h9]; clear h9
  show pm_V _ _ _ _ 59 _ [.int 0] _
  exact pm_iret (ty := .int) rfl rfl (by decide) (by decide) (by decide +kernel) (⟨rfl, rfl⟩)
set_option maxHeartbeats 4000000 in
set_option maxRecDepth 100000 in
theorem c_X10_redirectHouse {g : Nat → Int32} {c h q : Nat} {z u : Int32} (μ : pm_Mm) (hM : μ.1 48 = g) (hG : lr_G g) (hh : h < lr_n g 2) (hq2 : q < lr_n g 2) (hl : lr_dys z u = true) (hp : μ.1 47 5 = nI c) (hc8 : c ≤ 8) (hn : lr_n g 167 < 12) (hG2 : lr_G (lr_gX7_add g 1 (nI h) (nI q) z u)) (hr : lr_rr (lr_gX7_add g 1 (nI h) (nI q) z u) = false) : pm_CT mi_X10_redirectHouse [.ref 47, .int (nI h), .int (nI q), .int z, .int u] μ (fun v μ2 => v = some (.int (nI (lr_n g 167))) ∧ ∃ M, lr_fsp (pm_set μ 47 7 0) M ∧ M.1 48 = lr_gX7_add g 1 (nI h) (nI q) z u ∧ μ2 = lr_chg M 50) pm_NX := by
  refine pm_CT_of (lo := [some (.ref 47), some (.int (nI h)), some (.int (nI q)), some (.int z), some (.int u)]) (by decide +kernel) rfl rfl (by intro v hv; simp at hv; rcases hv with rfl | rfl | rfl | rfl | rfl <;> rfl) (Nat.le_of_ble_eq_true rfl) rfl ?_
  have hm1 := lr_mh hG; have hm2 := lr_mw hG; have hm3 := lr_mp hG; have hm4 := lr_mr hG; have hm5 := lr_ma hG; have hm6 := lr_ml hG
  refine pm_bl [(.aload_n 0, 1, 0, 0, 0), (.aload_n 0, 1, 0, 0, 0), (.iload_n 1, 1, 1, 0, 0)] (pc1 := 3) (lo1 := [some (.ref 47), some (.int (nI h)), some (.int (nI q)), some (.int z), some (.int u)]) (st1 := [.int (nI h), .ref 47, .ref 47]) (μ1 := μ) (vc := True) rfl (by decide +kernel) rfl trivial ?_
  refine pm_callV2 mi_X10_isHouse (ix := 70) (b := 47) (ci := 10) (kc2 := 0) (ks2 := 0) (As := [.int (nI h)]) (rest := [.ref 47]) (c_X10_isHouse (nI h) μ hM hG) cal_X10_isHouse lk10_70 (by decide +kernel) rfl (by decide +kernel) rfl rfl rfl rfl (Nat.le_of_ble_eq_true rfl) (by decide) (by decide) (fun _ _ h9 => h9.elim) ?_
  rintro _ _ ⟨rfl, h9⟩; rw [h9]; clear h9
  show pm_V _ _ _ _ 6 _ [.int (lr_b (lr_be (nI h) (nI (lr_n g 2)))), .ref 47] _
  refine pm_ifb_eq (off := 11) 17 (by decide +kernel) (by decide) (fun (h9 : (lr_be (nI h) (nI (lr_n g 2))) = false) => absurd (h9.symm.trans (lr_be_1 hh (by omega))) (by decide)) (fun (h6 : (lr_be (nI h) (nI (lr_n g 2))) = true) => ?_)
  refine pm_bl [(.aload_n 0, 1, 0, 0, 0), (.iload_n 2, 1, 2, 0, 0)] (pc1 := 11) (lo1 := [some (.ref 47), some (.int (nI h)), some (.int (nI q)), some (.int z), some (.int u)]) (st1 := [.int (nI q), .ref 47, .ref 47]) (μ1 := μ) (vc := True) rfl (by decide +kernel) rfl trivial ?_
  refine pm_callV2 mi_X10_isHouse (ix := 70) (b := 47) (ci := 10) (kc2 := 0) (ks2 := 0) (As := [.int (nI q)]) (rest := [.ref 47]) (c_X10_isHouse (nI q) μ hM hG) cal_X10_isHouse lk10_70 (by decide +kernel) rfl (by decide +kernel) rfl rfl rfl rfl (Nat.le_of_ble_eq_true rfl) (by decide) (by decide) (fun _ _ h9 => h9.elim) ?_
  rintro _ _ ⟨rfl, h9⟩; rw [h9]; clear h9
  show pm_V _ _ _ _ 14 _ [.int (lr_b (lr_be (nI q) (nI (lr_n g 2)))), .ref 47] _
  refine pm_ifb_ne (off := 7) 21 (by decide +kernel) (by decide) (fun (h14 : (lr_be (nI q) (nI (lr_n g 2))) = true) => ?_) (fun (h9 : (lr_be (nI q) (nI (lr_n g 2))) = false) => absurd (h9.symm.trans (lr_be_1 hq2 (by omega))) (by decide))
  refine pm_bl [(.iload_n 3, 1, 3, 0, 0), (.iload 4, 2, 4, 0, 0)] (pc1 := 24) (lo1 := [some (.ref 47), some (.int (nI h)), some (.int (nI q)), some (.int z), some (.int u)]) (st1 := [.int u, .int z, .ref 47]) (μ1 := μ) (vc := True) rfl (by decide +kernel) rfl trivial ?_
  refine pm_callS2 mi_X10_areDays (ix := 105) (kc2 := 0) (ks2 := 0) (As := [.int z, .int u]) (rest := [.ref 47]) (c_X10_areDays z u μ) cal_X10_areDays lk10_105 (by decide +kernel) rfl (by decide +kernel) rfl rfl (Nat.le_of_ble_eq_true rfl) (by decide) (by decide) (fun _ _ h9 => h9.elim) ?_
  rintro _ _ ⟨rfl, h9⟩; rw [h9]; clear h9
  show pm_V _ _ _ _ 27 _ [.int (lr_b (lr_dys z u)), .ref 47] _
  refine pm_ifb_eq (off := 7) 34 (by decide +kernel) (by decide) (fun (h9 : (lr_dys z u) = false) => absurd (hl.symm.trans h9) (by decide)) (fun (h27 : (lr_dys z u) = true) => ?_)
  refine pm_bl [(.iconst 0, 1, 0, 0, 0), (.goto 4, 3, 35, 0, 0), (.putfield 35, 3, 10, 7, 0), (.aload_n 0, 1, 0, 0, 0), (.getfield 35, 3, 10, 7, 0)] (pc1 := 42) (lo1 := [some (.ref 47), some (.int (nI h)), some (.int (nI q)), some (.int z), some (.int u)]) (st1 := [.int ((pm_set μ 47 7 0).1 47 7)]) (μ1 := pm_set μ 47 7 0) (vc := True) rfl (by decide +kernel) rfl trivial ?_
  rw [show (pm_set μ 47 7 0).1 47 7 = 0 from by rw [pm_set_hit] <;> omega]
  refine pm_if_le (off := 7) 49 (by decide +kernel) (by decide) (fun _ => ?_) (fun h9 => absurd h9 (by decide))
  refine pm_bl [(.aload_n 0, 1, 0, 0, 0), (.iconst 1, 1, 0, 0, 1), (.iload_n 1, 1, 1, 0, 0), (.iload_n 2, 1, 2, 0, 0), (.iload_n 3, 1, 3, 0, 0), (.iload 4, 2, 4, 0, 0)] (pc1 := 56) (lo1 := [some (.ref 47), some (.int (nI h)), some (.int (nI q)), some (.int z), some (.int u)]) (st1 := [.int u, .int z, .int (nI q), .int (nI h), .int 1, .ref 47]) (μ1 := pm_set μ 47 7 0) (vc := True) rfl (by decide +kernel) rfl trivial ?_
  refine pm_callV2 mi_X10_redirects (ix := 108) (b := 47) (ci := 10) (kc2 := 0) (ks2 := 0) (As := [.int 1, .int (nI h), .int (nI q), .int z, .int u]) (rest := []) (c_X10_redirects_h (c := c) (nI h) (nI q) z u (pm_set μ 47 7 0) (by rw [pm_set_off (by decide)]; exact hM) hG (by rw [pm_set_miss (Or.inr (by decide))]; exact hp) hc8 hn hG2 hr) cal_X10_redirects lk10_108 (by decide +kernel) rfl (by decide +kernel) rfl rfl rfl rfl (Nat.le_of_ble_eq_true rfl) (by decide) (by decide) (fun _ _ h9 => h9.elim) ?_
  rintro _ μ1 ⟨rfl, h8⟩
  show pm_V _ _ _ _ 59 _ [.int (nI (lr_n g 167))] _
  exact pm_iret (ty := .int) rfl rfl (by decide) (by decide) (by decide +kernel) (⟨rfl, h8⟩)
set_option maxHeartbeats 4000000 in
set_option maxRecDepth 100000 in
theorem c_X10_redirectHouse_r {g : Nat → Int32} {h q : Nat} {z u : Int32} (μ : pm_Mm) (hM : μ.1 48 = g) (hG : lr_G g) (hh : h < lr_n g 2) (hq2 : q < lr_n g 2) (hl : lr_dys z u = true) (hn : lr_n g 167 < 12) (hG2 : lr_G (lr_gX7_add g 1 (nI h) (nI q) z u)) (hr : lr_rr (lr_gX7_add g 1 (nI h) (nI q) z u) = true) : pm_CT mi_X10_redirectHouse [.ref 47, .int (nI h), .int (nI q), .int z, .int u] μ (fun v μ2 => v = some (.int 0) ∧ lr_fs (pm_set (pm_set (pm_set μ 47 7 0) 47 6 2) 47 7 3) μ2) pm_NX := by
  refine pm_CT_of (lo := [some (.ref 47), some (.int (nI h)), some (.int (nI q)), some (.int z), some (.int u)]) (by decide +kernel) rfl rfl (by intro v hv; simp at hv; rcases hv with rfl | rfl | rfl | rfl | rfl <;> rfl) (Nat.le_of_ble_eq_true rfl) rfl ?_
  have hm1 := lr_mh hG; have hm2 := lr_mw hG; have hm3 := lr_mp hG; have hm4 := lr_mr hG; have hm5 := lr_ma hG; have hm6 := lr_ml hG
  refine pm_bl [(.aload_n 0, 1, 0, 0, 0), (.aload_n 0, 1, 0, 0, 0), (.iload_n 1, 1, 1, 0, 0)] (pc1 := 3) (lo1 := [some (.ref 47), some (.int (nI h)), some (.int (nI q)), some (.int z), some (.int u)]) (st1 := [.int (nI h), .ref 47, .ref 47]) (μ1 := μ) (vc := True) rfl (by decide +kernel) rfl trivial ?_
  refine pm_callV2 mi_X10_isHouse (ix := 70) (b := 47) (ci := 10) (kc2 := 0) (ks2 := 0) (As := [.int (nI h)]) (rest := [.ref 47]) (c_X10_isHouse (nI h) μ hM hG) cal_X10_isHouse lk10_70 (by decide +kernel) rfl (by decide +kernel) rfl rfl rfl rfl (Nat.le_of_ble_eq_true rfl) (by decide) (by decide) (fun _ _ h9 => h9.elim) ?_
  rintro _ _ ⟨rfl, h9⟩; rw [h9]; clear h9
  show pm_V _ _ _ _ 6 _ [.int (lr_b (lr_be (nI h) (nI (lr_n g 2)))), .ref 47] _
  refine pm_ifb_eq (off := 11) 17 (by decide +kernel) (by decide) (fun (h9 : (lr_be (nI h) (nI (lr_n g 2))) = false) => absurd (h9.symm.trans (lr_be_1 hh (by omega))) (by decide)) (fun (h6 : (lr_be (nI h) (nI (lr_n g 2))) = true) => ?_)
  refine pm_bl [(.aload_n 0, 1, 0, 0, 0), (.iload_n 2, 1, 2, 0, 0)] (pc1 := 11) (lo1 := [some (.ref 47), some (.int (nI h)), some (.int (nI q)), some (.int z), some (.int u)]) (st1 := [.int (nI q), .ref 47, .ref 47]) (μ1 := μ) (vc := True) rfl (by decide +kernel) rfl trivial ?_
  refine pm_callV2 mi_X10_isHouse (ix := 70) (b := 47) (ci := 10) (kc2 := 0) (ks2 := 0) (As := [.int (nI q)]) (rest := [.ref 47]) (c_X10_isHouse (nI q) μ hM hG) cal_X10_isHouse lk10_70 (by decide +kernel) rfl (by decide +kernel) rfl rfl rfl rfl (Nat.le_of_ble_eq_true rfl) (by decide) (by decide) (fun _ _ h9 => h9.elim) ?_
  rintro _ _ ⟨rfl, h9⟩; rw [h9]; clear h9
  show pm_V _ _ _ _ 14 _ [.int (lr_b (lr_be (nI q) (nI (lr_n g 2)))), .ref 47] _
  refine pm_ifb_ne (off := 7) 21 (by decide +kernel) (by decide) (fun (h14 : (lr_be (nI q) (nI (lr_n g 2))) = true) => ?_) (fun (h9 : (lr_be (nI q) (nI (lr_n g 2))) = false) => absurd (h9.symm.trans (lr_be_1 hq2 (by omega))) (by decide))
  refine pm_bl [(.iload_n 3, 1, 3, 0, 0), (.iload 4, 2, 4, 0, 0)] (pc1 := 24) (lo1 := [some (.ref 47), some (.int (nI h)), some (.int (nI q)), some (.int z), some (.int u)]) (st1 := [.int u, .int z, .ref 47]) (μ1 := μ) (vc := True) rfl (by decide +kernel) rfl trivial ?_
  refine pm_callS2 mi_X10_areDays (ix := 105) (kc2 := 0) (ks2 := 0) (As := [.int z, .int u]) (rest := [.ref 47]) (c_X10_areDays z u μ) cal_X10_areDays lk10_105 (by decide +kernel) rfl (by decide +kernel) rfl rfl (Nat.le_of_ble_eq_true rfl) (by decide) (by decide) (fun _ _ h9 => h9.elim) ?_
  rintro _ _ ⟨rfl, h9⟩; rw [h9]; clear h9
  show pm_V _ _ _ _ 27 _ [.int (lr_b (lr_dys z u)), .ref 47] _
  refine pm_ifb_eq (off := 7) 34 (by decide +kernel) (by decide) (fun (h9 : (lr_dys z u) = false) => absurd (hl.symm.trans h9) (by decide)) (fun (h27 : (lr_dys z u) = true) => ?_)
  refine pm_bl [(.iconst 0, 1, 0, 0, 0), (.goto 4, 3, 35, 0, 0), (.putfield 35, 3, 10, 7, 0), (.aload_n 0, 1, 0, 0, 0), (.getfield 35, 3, 10, 7, 0)] (pc1 := 42) (lo1 := [some (.ref 47), some (.int (nI h)), some (.int (nI q)), some (.int z), some (.int u)]) (st1 := [.int ((pm_set μ 47 7 0).1 47 7)]) (μ1 := pm_set μ 47 7 0) (vc := True) rfl (by decide +kernel) rfl trivial ?_
  rw [show (pm_set μ 47 7 0).1 47 7 = 0 from by rw [pm_set_hit] <;> omega]
  refine pm_if_le (off := 7) 49 (by decide +kernel) (by decide) (fun _ => ?_) (fun h9 => absurd h9 (by decide))
  refine pm_bl [(.aload_n 0, 1, 0, 0, 0), (.iconst 1, 1, 0, 0, 1), (.iload_n 1, 1, 1, 0, 0), (.iload_n 2, 1, 2, 0, 0), (.iload_n 3, 1, 3, 0, 0), (.iload 4, 2, 4, 0, 0)] (pc1 := 56) (lo1 := [some (.ref 47), some (.int (nI h)), some (.int (nI q)), some (.int z), some (.int u)]) (st1 := [.int u, .int z, .int (nI q), .int (nI h), .int 1, .ref 47]) (μ1 := pm_set μ 47 7 0) (vc := True) rfl (by decide +kernel) rfl trivial ?_
  refine pm_callV2 mi_X10_redirects (ix := 108) (b := 47) (ci := 10) (kc2 := 0) (ks2 := 0) (As := [.int 1, .int (nI h), .int (nI q), .int z, .int u]) (rest := []) (c_X10_redirects_r (nI h) (nI q) z u (pm_set μ 47 7 0) (by rw [pm_set_off (by decide)]; exact hM) hG hn hG2 hr) cal_X10_redirects lk10_108 (by decide +kernel) rfl (by decide +kernel) rfl rfl rfl rfl (Nat.le_of_ble_eq_true rfl) (by decide) (by decide) (fun _ _ h9 => h9.elim) ?_
  rintro _ μ1 ⟨rfl, h8⟩
  show pm_V _ _ _ _ 59 _ [.int 0] _
  exact pm_iret (ty := .int) rfl rfl (by decide) (by decide) (by decide +kernel) (⟨rfl, h8⟩)
set_option maxHeartbeats 4000000 in
set_option maxRecDepth 100000 in
theorem s_X10_addsLetter_0 (P : Option Value → pm_Mm → Prop) {l : Nat} (hl : l < 30) (pe we re : Int32) (μ : pm_Mm) (K : pm_V mi_X10_addsLetter (P, pm_NX, fun _ _ _ => True) 0 0 13 [some (.ref 47), some (.int pe), some (.int we), some (.int re), some (.int (nI l)), some (.int 1)] [] (pm_set μ 48 (290 + 11 * l) pe)) : pm_V mi_X10_addsLetter (P, pm_NX, fun _ _ _ => True) 0 0 13 [some (.ref 47), some (.int pe), some (.int we), some (.int re), some (.int (nI l)), some (.int 0)] [] μ := by
  refine pm_bl [(.iload 5, 2, 5, 0, 0), (.bipush 11, 2, 0, 0, 11)] (pc1 := 17) (lo1 := [some (.ref 47), some (.int pe), some (.int we), some (.int re), some (.int (nI l)), some (.int 0)]) (st1 := [.int 11, .int 0]) (μ1 := μ) (vc := True) rfl (by decide +kernel) rfl trivial ?_
  refine pm_icmp_ge (off := 83) 100 (by decide +kernel) (by decide) (fun h9 => absurd h9 (by decide)) (fun _ => ?_)
  refine pm_bl [(.aload_n 0, 1, 0, 0, 0), (.getfield 7, 3, 10, 0, 0), (.iload 4, 2, 4, 0, 0), (.iload 5, 2, 5, 0, 0)] (pc1 := 28) (lo1 := [some (.ref 47), some (.int pe), some (.int we), some (.int re), some (.int (nI l)), some (.int 0)]) (st1 := [.int 0, .int (nI l), .ref 48]) (μ1 := μ) (vc := True) rfl (by decide +kernel) rfl trivial ?_
  refine pm_callS2 mi_X10_at (ix := 127) (kc2 := 0) (ks2 := 0) (As := [.int (nI l), .int 0]) (rest := [.ref 48]) (c_X10_at (k := l) (c := 0) (n := 290 + 11 * l) μ (by omega)) cal_X10_at lk10_127 (by decide +kernel) rfl (by decide +kernel) rfl rfl (Nat.le_of_ble_eq_true rfl) (by decide) (by decide) (fun _ _ h9 => h9.elim) ?_
  rintro _ _ ⟨rfl, h9⟩; rw [h9]; clear h9
  show pm_V _ _ _ _ 31 _ [.int (nI (290 + 11 * l)), .ref 48] _
  refine pm_bl [(.iload 5, 2, 5, 0, 0)] (pc1 := 33) (lo1 := [some (.ref 47), some (.int pe), some (.int we), some (.int re), some (.int (nI l)), some (.int 0)]) (st1 := [.int 0, .int (nI (290 + 11 * l)), .ref 48]) (μ1 := μ) (vc := True) rfl (by decide +kernel) rfl trivial ?_
  refine pm_if_ne (off := 7) 40 (by decide +kernel) (by decide) (fun h9 => absurd h9 (by decide)) (fun _ => ?_)
  refine pm_bl [(.iload_n 1, 1, 1, 0, 0), (.goto 56, 3, 93, 0, 0), (.iastore, 1, 0, 0, 0), (.iinc 5 1, 3, 5, 0, 1), (.goto (-84), 3, 13, 0, 0)] (pc1 := 13) (lo1 := [some (.ref 47), some (.int pe), some (.int we), some (.int re), some (.int (nI l)), some (.int (0 + 1))]) (st1 := []) (μ1 := pm_set μ 48 ((nI (290 + 11 * l)).toNatClampNeg) pe) (vc := vp_in (nI (290 + 11 * l)) 620 ∧ True) rfl (by decide +kernel) rfl ⟨(vp_in_nI (by omega) (by omega)), trivial⟩ ?_
  try rw [nI_clamp (n := (290 + 11 * l)) (by omega)]
  try rw [show (0 : Int32).toNatClampNeg = 0 from by decide]
  try rw [nI_clamp (n := 290 + 11 * l) (by omega)]
  exact K
set_option maxHeartbeats 4000000 in
set_option maxRecDepth 100000 in
theorem s_X10_addsLetter_1 (P : Option Value → pm_Mm → Prop) {l : Nat} (hl : l < 30) (pe we re : Int32) (μ : pm_Mm) (K : pm_V mi_X10_addsLetter (P, pm_NX, fun _ _ _ => True) 0 0 13 [some (.ref 47), some (.int pe), some (.int we), some (.int re), some (.int (nI l)), some (.int 2)] [] (pm_set μ 48 (291 + 11 * l) we)) : pm_V mi_X10_addsLetter (P, pm_NX, fun _ _ _ => True) 0 0 13 [some (.ref 47), some (.int pe), some (.int we), some (.int re), some (.int (nI l)), some (.int 1)] [] μ := by
  refine pm_bl [(.iload 5, 2, 5, 0, 0), (.bipush 11, 2, 0, 0, 11)] (pc1 := 17) (lo1 := [some (.ref 47), some (.int pe), some (.int we), some (.int re), some (.int (nI l)), some (.int 1)]) (st1 := [.int 11, .int 1]) (μ1 := μ) (vc := True) rfl (by decide +kernel) rfl trivial ?_
  refine pm_icmp_ge (off := 83) 100 (by decide +kernel) (by decide) (fun h9 => absurd h9 (by decide)) (fun _ => ?_)
  refine pm_bl [(.aload_n 0, 1, 0, 0, 0), (.getfield 7, 3, 10, 0, 0), (.iload 4, 2, 4, 0, 0), (.iload 5, 2, 5, 0, 0)] (pc1 := 28) (lo1 := [some (.ref 47), some (.int pe), some (.int we), some (.int re), some (.int (nI l)), some (.int 1)]) (st1 := [.int 1, .int (nI l), .ref 48]) (μ1 := μ) (vc := True) rfl (by decide +kernel) rfl trivial ?_
  refine pm_callS2 mi_X10_at (ix := 127) (kc2 := 0) (ks2 := 0) (As := [.int (nI l), .int 1]) (rest := [.ref 48]) (c_X10_at (k := l) (c := 1) (n := 291 + 11 * l) μ (by omega)) cal_X10_at lk10_127 (by decide +kernel) rfl (by decide +kernel) rfl rfl (Nat.le_of_ble_eq_true rfl) (by decide) (by decide) (fun _ _ h9 => h9.elim) ?_
  rintro _ _ ⟨rfl, h9⟩; rw [h9]; clear h9
  show pm_V _ _ _ _ 31 _ [.int (nI (291 + 11 * l)), .ref 48] _
  refine pm_bl [(.iload 5, 2, 5, 0, 0)] (pc1 := 33) (lo1 := [some (.ref 47), some (.int pe), some (.int we), some (.int re), some (.int (nI l)), some (.int 1)]) (st1 := [.int 1, .int (nI (291 + 11 * l)), .ref 48]) (μ1 := μ) (vc := True) rfl (by decide +kernel) rfl trivial ?_
  refine pm_if_ne (off := 7) 40 (by decide +kernel) (by decide) (fun _ => ?_) (fun h9 => absurd h9 (by decide))
  refine pm_bl [(.iload 5, 2, 5, 0, 0), (.iconst 1, 1, 0, 0, 1)] (pc1 := 43) (lo1 := [some (.ref 47), some (.int pe), some (.int we), some (.int re), some (.int (nI l)), some (.int 1)]) (st1 := [.int 1, .int 1, .int (nI (291 + 11 * l)), .ref 48]) (μ1 := μ) (vc := True) rfl (by decide +kernel) rfl trivial ?_
  refine pm_icmp_ne (off := 7) 50 (by decide +kernel) (by decide) (fun h9 => absurd h9 (by decide)) (fun _ => ?_)
  refine pm_bl [(.iload_n 2, 1, 2, 0, 0), (.goto 46, 3, 93, 0, 0), (.iastore, 1, 0, 0, 0), (.iinc 5 1, 3, 5, 0, 1), (.goto (-84), 3, 13, 0, 0)] (pc1 := 13) (lo1 := [some (.ref 47), some (.int pe), some (.int we), some (.int re), some (.int (nI l)), some (.int (1 + 1))]) (st1 := []) (μ1 := pm_set μ 48 ((nI (291 + 11 * l)).toNatClampNeg) we) (vc := vp_in (nI (291 + 11 * l)) 620 ∧ True) rfl (by decide +kernel) rfl ⟨(vp_in_nI (by omega) (by omega)), trivial⟩ ?_
  try rw [nI_clamp (n := (291 + 11 * l)) (by omega)]
  try rw [show (0 : Int32).toNatClampNeg = 0 from by decide]
  try rw [nI_clamp (n := 291 + 11 * l) (by omega)]
  exact K
set_option maxHeartbeats 4000000 in
set_option maxRecDepth 100000 in
theorem s_X10_addsLetter_2 (P : Option Value → pm_Mm → Prop) {l : Nat} (hl : l < 30) (pe we re : Int32) (μ : pm_Mm) (K : pm_V mi_X10_addsLetter (P, pm_NX, fun _ _ _ => True) 0 0 13 [some (.ref 47), some (.int pe), some (.int we), some (.int re), some (.int (nI l)), some (.int 3)] [] (pm_set μ 48 (292 + 11 * l) re)) : pm_V mi_X10_addsLetter (P, pm_NX, fun _ _ _ => True) 0 0 13 [some (.ref 47), some (.int pe), some (.int we), some (.int re), some (.int (nI l)), some (.int 2)] [] μ := by
  refine pm_bl [(.iload 5, 2, 5, 0, 0), (.bipush 11, 2, 0, 0, 11)] (pc1 := 17) (lo1 := [some (.ref 47), some (.int pe), some (.int we), some (.int re), some (.int (nI l)), some (.int 2)]) (st1 := [.int 11, .int 2]) (μ1 := μ) (vc := True) rfl (by decide +kernel) rfl trivial ?_
  refine pm_icmp_ge (off := 83) 100 (by decide +kernel) (by decide) (fun h9 => absurd h9 (by decide)) (fun _ => ?_)
  refine pm_bl [(.aload_n 0, 1, 0, 0, 0), (.getfield 7, 3, 10, 0, 0), (.iload 4, 2, 4, 0, 0), (.iload 5, 2, 5, 0, 0)] (pc1 := 28) (lo1 := [some (.ref 47), some (.int pe), some (.int we), some (.int re), some (.int (nI l)), some (.int 2)]) (st1 := [.int 2, .int (nI l), .ref 48]) (μ1 := μ) (vc := True) rfl (by decide +kernel) rfl trivial ?_
  refine pm_callS2 mi_X10_at (ix := 127) (kc2 := 0) (ks2 := 0) (As := [.int (nI l), .int 2]) (rest := [.ref 48]) (c_X10_at (k := l) (c := 2) (n := 292 + 11 * l) μ (by omega)) cal_X10_at lk10_127 (by decide +kernel) rfl (by decide +kernel) rfl rfl (Nat.le_of_ble_eq_true rfl) (by decide) (by decide) (fun _ _ h9 => h9.elim) ?_
  rintro _ _ ⟨rfl, h9⟩; rw [h9]; clear h9
  show pm_V _ _ _ _ 31 _ [.int (nI (292 + 11 * l)), .ref 48] _
  refine pm_bl [(.iload 5, 2, 5, 0, 0)] (pc1 := 33) (lo1 := [some (.ref 47), some (.int pe), some (.int we), some (.int re), some (.int (nI l)), some (.int 2)]) (st1 := [.int 2, .int (nI (292 + 11 * l)), .ref 48]) (μ1 := μ) (vc := True) rfl (by decide +kernel) rfl trivial ?_
  refine pm_if_ne (off := 7) 40 (by decide +kernel) (by decide) (fun _ => ?_) (fun h9 => absurd h9 (by decide))
  refine pm_bl [(.iload 5, 2, 5, 0, 0), (.iconst 1, 1, 0, 0, 1)] (pc1 := 43) (lo1 := [some (.ref 47), some (.int pe), some (.int we), some (.int re), some (.int (nI l)), some (.int 2)]) (st1 := [.int 1, .int 2, .int (nI (292 + 11 * l)), .ref 48]) (μ1 := μ) (vc := True) rfl (by decide +kernel) rfl trivial ?_
  refine pm_icmp_ne (off := 7) 50 (by decide +kernel) (by decide) (fun _ => ?_) (fun h9 => absurd h9 (by decide))
  refine pm_bl [(.iload 5, 2, 5, 0, 0), (.iconst 2, 1, 0, 0, 2)] (pc1 := 53) (lo1 := [some (.ref 47), some (.int pe), some (.int we), some (.int re), some (.int (nI l)), some (.int 2)]) (st1 := [.int 2, .int 2, .int (nI (292 + 11 * l)), .ref 48]) (μ1 := μ) (vc := True) rfl (by decide +kernel) rfl trivial ?_
  refine pm_icmp_ne (off := 7) 60 (by decide +kernel) (by decide) (fun h9 => absurd h9 (by decide)) (fun _ => ?_)
  refine pm_bl [(.iload_n 3, 1, 3, 0, 0), (.goto 36, 3, 93, 0, 0), (.iastore, 1, 0, 0, 0), (.iinc 5 1, 3, 5, 0, 1), (.goto (-84), 3, 13, 0, 0)] (pc1 := 13) (lo1 := [some (.ref 47), some (.int pe), some (.int we), some (.int re), some (.int (nI l)), some (.int (2 + 1))]) (st1 := []) (μ1 := pm_set μ 48 ((nI (292 + 11 * l)).toNatClampNeg) re) (vc := vp_in (nI (292 + 11 * l)) 620 ∧ True) rfl (by decide +kernel) rfl ⟨(vp_in_nI (by omega) (by omega)), trivial⟩ ?_
  try rw [nI_clamp (n := (292 + 11 * l)) (by omega)]
  try rw [show (0 : Int32).toNatClampNeg = 0 from by decide]
  try rw [nI_clamp (n := 292 + 11 * l) (by omega)]
  exact K
set_option maxHeartbeats 4000000 in
set_option maxRecDepth 100000 in
theorem s_X10_addsLetter_3 (P : Option Value → pm_Mm → Prop) {l : Nat} (hl : l < 30) (pe we re : Int32) (μ : pm_Mm) (K : pm_V mi_X10_addsLetter (P, pm_NX, fun _ _ _ => True) 0 0 13 [some (.ref 47), some (.int pe), some (.int we), some (.int re), some (.int (nI l)), some (.int 4)] [] (pm_set μ 48 (293 + 11 * l) (μ.1 48 0))) : pm_V mi_X10_addsLetter (P, pm_NX, fun _ _ _ => True) 0 0 13 [some (.ref 47), some (.int pe), some (.int we), some (.int re), some (.int (nI l)), some (.int 3)] [] μ := by
  refine pm_bl [(.iload 5, 2, 5, 0, 0), (.bipush 11, 2, 0, 0, 11)] (pc1 := 17) (lo1 := [some (.ref 47), some (.int pe), some (.int we), some (.int re), some (.int (nI l)), some (.int 3)]) (st1 := [.int 11, .int 3]) (μ1 := μ) (vc := True) rfl (by decide +kernel) rfl trivial ?_
  refine pm_icmp_ge (off := 83) 100 (by decide +kernel) (by decide) (fun h9 => absurd h9 (by decide)) (fun _ => ?_)
  refine pm_bl [(.aload_n 0, 1, 0, 0, 0), (.getfield 7, 3, 10, 0, 0), (.iload 4, 2, 4, 0, 0), (.iload 5, 2, 5, 0, 0)] (pc1 := 28) (lo1 := [some (.ref 47), some (.int pe), some (.int we), some (.int re), some (.int (nI l)), some (.int 3)]) (st1 := [.int 3, .int (nI l), .ref 48]) (μ1 := μ) (vc := True) rfl (by decide +kernel) rfl trivial ?_
  refine pm_callS2 mi_X10_at (ix := 127) (kc2 := 0) (ks2 := 0) (As := [.int (nI l), .int 3]) (rest := [.ref 48]) (c_X10_at (k := l) (c := 3) (n := 293 + 11 * l) μ (by omega)) cal_X10_at lk10_127 (by decide +kernel) rfl (by decide +kernel) rfl rfl (Nat.le_of_ble_eq_true rfl) (by decide) (by decide) (fun _ _ h9 => h9.elim) ?_
  rintro _ _ ⟨rfl, h9⟩; rw [h9]; clear h9
  show pm_V _ _ _ _ 31 _ [.int (nI (293 + 11 * l)), .ref 48] _
  refine pm_bl [(.iload 5, 2, 5, 0, 0)] (pc1 := 33) (lo1 := [some (.ref 47), some (.int pe), some (.int we), some (.int re), some (.int (nI l)), some (.int 3)]) (st1 := [.int 3, .int (nI (293 + 11 * l)), .ref 48]) (μ1 := μ) (vc := True) rfl (by decide +kernel) rfl trivial ?_
  refine pm_if_ne (off := 7) 40 (by decide +kernel) (by decide) (fun _ => ?_) (fun h9 => absurd h9 (by decide))
  refine pm_bl [(.iload 5, 2, 5, 0, 0), (.iconst 1, 1, 0, 0, 1)] (pc1 := 43) (lo1 := [some (.ref 47), some (.int pe), some (.int we), some (.int re), some (.int (nI l)), some (.int 3)]) (st1 := [.int 1, .int 3, .int (nI (293 + 11 * l)), .ref 48]) (μ1 := μ) (vc := True) rfl (by decide +kernel) rfl trivial ?_
  refine pm_icmp_ne (off := 7) 50 (by decide +kernel) (by decide) (fun _ => ?_) (fun h9 => absurd h9 (by decide))
  refine pm_bl [(.iload 5, 2, 5, 0, 0), (.iconst 2, 1, 0, 0, 2)] (pc1 := 53) (lo1 := [some (.ref 47), some (.int pe), some (.int we), some (.int re), some (.int (nI l)), some (.int 3)]) (st1 := [.int 2, .int 3, .int (nI (293 + 11 * l)), .ref 48]) (μ1 := μ) (vc := True) rfl (by decide +kernel) rfl trivial ?_
  refine pm_icmp_ne (off := 7) 60 (by decide +kernel) (by decide) (fun _ => ?_) (fun h9 => absurd h9 (by decide))
  refine pm_bl [(.iload 5, 2, 5, 0, 0), (.iconst 3, 1, 0, 0, 3)] (pc1 := 63) (lo1 := [some (.ref 47), some (.int pe), some (.int we), some (.int re), some (.int (nI l)), some (.int 3)]) (st1 := [.int 3, .int 3, .int (nI (293 + 11 * l)), .ref 48]) (μ1 := μ) (vc := True) rfl (by decide +kernel) rfl trivial ?_
  refine pm_icmp_ne (off := 12) 75 (by decide +kernel) (by decide) (fun h9 => absurd h9 (by decide)) (fun _ => ?_)
  refine pm_bl [(.aload_n 0, 1, 0, 0, 0), (.getfield 7, 3, 10, 0, 0), (.iconst 0, 1, 0, 0, 0), (.iaload, 1, 0, 0, 0)] (pc1 := 72) (lo1 := [some (.ref 47), some (.int pe), some (.int we), some (.int re), some (.int (nI l)), some (.int 3)]) (st1 := [.int (μ.1 48 (0 : Int32).toNatClampNeg), .int (nI (293 + 11 * l)), .ref 48]) (μ1 := μ) (vc := vp_in 0 620 ∧ True) rfl (by decide +kernel) rfl ⟨(by unfold vp_in; decide), trivial⟩ ?_
  refine pm_bl [(.goto 21, 3, 93, 0, 0), (.iastore, 1, 0, 0, 0), (.iinc 5 1, 3, 5, 0, 1), (.goto (-84), 3, 13, 0, 0)] (pc1 := 13) (lo1 := [some (.ref 47), some (.int pe), some (.int we), some (.int re), some (.int (nI l)), some (.int (3 + 1))]) (st1 := []) (μ1 := pm_set μ 48 ((nI (293 + 11 * l)).toNatClampNeg) (μ.1 48 (0 : Int32).toNatClampNeg)) (vc := vp_in (nI (293 + 11 * l)) 620 ∧ True) rfl (by decide +kernel) rfl ⟨(vp_in_nI (by omega) (by omega)), trivial⟩ ?_
  try rw [nI_clamp (n := (293 + 11 * l)) (by omega)]
  try rw [show (0 : Int32).toNatClampNeg = 0 from by decide]
  try rw [nI_clamp (n := 293 + 11 * l) (by omega)]
  exact K
set_option maxHeartbeats 4000000 in
set_option maxRecDepth 100000 in
theorem s_X10_addsLetter_4 (P : Option Value → pm_Mm → Prop) {l : Nat} (hl : l < 30) (pe we re : Int32) (μ : pm_Mm) (K : pm_V mi_X10_addsLetter (P, pm_NX, fun _ _ _ => True) 0 0 13 [some (.ref 47), some (.int pe), some (.int we), some (.int re), some (.int (nI l)), some (.int 5)] [] (pm_set μ 48 (294 + 11 * l) 0)) : pm_V mi_X10_addsLetter (P, pm_NX, fun _ _ _ => True) 0 0 13 [some (.ref 47), some (.int pe), some (.int we), some (.int re), some (.int (nI l)), some (.int 4)] [] μ := by
  refine pm_bl [(.iload 5, 2, 5, 0, 0), (.bipush 11, 2, 0, 0, 11)] (pc1 := 17) (lo1 := [some (.ref 47), some (.int pe), some (.int we), some (.int re), some (.int (nI l)), some (.int 4)]) (st1 := [.int 11, .int 4]) (μ1 := μ) (vc := True) rfl (by decide +kernel) rfl trivial ?_
  refine pm_icmp_ge (off := 83) 100 (by decide +kernel) (by decide) (fun h9 => absurd h9 (by decide)) (fun _ => ?_)
  refine pm_bl [(.aload_n 0, 1, 0, 0, 0), (.getfield 7, 3, 10, 0, 0), (.iload 4, 2, 4, 0, 0), (.iload 5, 2, 5, 0, 0)] (pc1 := 28) (lo1 := [some (.ref 47), some (.int pe), some (.int we), some (.int re), some (.int (nI l)), some (.int 4)]) (st1 := [.int 4, .int (nI l), .ref 48]) (μ1 := μ) (vc := True) rfl (by decide +kernel) rfl trivial ?_
  refine pm_callS2 mi_X10_at (ix := 127) (kc2 := 0) (ks2 := 0) (As := [.int (nI l), .int 4]) (rest := [.ref 48]) (c_X10_at (k := l) (c := 4) (n := 294 + 11 * l) μ (by omega)) cal_X10_at lk10_127 (by decide +kernel) rfl (by decide +kernel) rfl rfl (Nat.le_of_ble_eq_true rfl) (by decide) (by decide) (fun _ _ h9 => h9.elim) ?_
  rintro _ _ ⟨rfl, h9⟩; rw [h9]; clear h9
  show pm_V _ _ _ _ 31 _ [.int (nI (294 + 11 * l)), .ref 48] _
  refine pm_bl [(.iload 5, 2, 5, 0, 0)] (pc1 := 33) (lo1 := [some (.ref 47), some (.int pe), some (.int we), some (.int re), some (.int (nI l)), some (.int 4)]) (st1 := [.int 4, .int (nI (294 + 11 * l)), .ref 48]) (μ1 := μ) (vc := True) rfl (by decide +kernel) rfl trivial ?_
  refine pm_if_ne (off := 7) 40 (by decide +kernel) (by decide) (fun _ => ?_) (fun h9 => absurd h9 (by decide))
  refine pm_bl [(.iload 5, 2, 5, 0, 0), (.iconst 1, 1, 0, 0, 1)] (pc1 := 43) (lo1 := [some (.ref 47), some (.int pe), some (.int we), some (.int re), some (.int (nI l)), some (.int 4)]) (st1 := [.int 1, .int 4, .int (nI (294 + 11 * l)), .ref 48]) (μ1 := μ) (vc := True) rfl (by decide +kernel) rfl trivial ?_
  refine pm_icmp_ne (off := 7) 50 (by decide +kernel) (by decide) (fun _ => ?_) (fun h9 => absurd h9 (by decide))
  refine pm_bl [(.iload 5, 2, 5, 0, 0), (.iconst 2, 1, 0, 0, 2)] (pc1 := 53) (lo1 := [some (.ref 47), some (.int pe), some (.int we), some (.int re), some (.int (nI l)), some (.int 4)]) (st1 := [.int 2, .int 4, .int (nI (294 + 11 * l)), .ref 48]) (μ1 := μ) (vc := True) rfl (by decide +kernel) rfl trivial ?_
  refine pm_icmp_ne (off := 7) 60 (by decide +kernel) (by decide) (fun _ => ?_) (fun h9 => absurd h9 (by decide))
  refine pm_bl [(.iload 5, 2, 5, 0, 0), (.iconst 3, 1, 0, 0, 3)] (pc1 := 63) (lo1 := [some (.ref 47), some (.int pe), some (.int we), some (.int re), some (.int (nI l)), some (.int 4)]) (st1 := [.int 3, .int 4, .int (nI (294 + 11 * l)), .ref 48]) (μ1 := μ) (vc := True) rfl (by decide +kernel) rfl trivial ?_
  refine pm_icmp_ne (off := 12) 75 (by decide +kernel) (by decide) (fun _ => ?_) (fun h9 => absurd h9 (by decide))
  refine pm_bl [(.iload 5, 2, 5, 0, 0), (.iconst 4, 1, 0, 0, 4)] (pc1 := 78) (lo1 := [some (.ref 47), some (.int pe), some (.int we), some (.int re), some (.int (nI l)), some (.int 4)]) (st1 := [.int 4, .int 4, .int (nI (294 + 11 * l)), .ref 48]) (μ1 := μ) (vc := True) rfl (by decide +kernel) rfl trivial ?_
  refine pm_icmp_eq (off := 10) 88 (by decide +kernel) (by decide) (fun _ => ?_) (fun h9 => absurd h9 (by decide))
  refine pm_bl [(.iconst 0, 1, 0, 0, 0), (.goto 4, 3, 93, 0, 0), (.iastore, 1, 0, 0, 0), (.iinc 5 1, 3, 5, 0, 1), (.goto (-84), 3, 13, 0, 0)] (pc1 := 13) (lo1 := [some (.ref 47), some (.int pe), some (.int we), some (.int re), some (.int (nI l)), some (.int (4 + 1))]) (st1 := []) (μ1 := pm_set μ 48 ((nI (294 + 11 * l)).toNatClampNeg) 0) (vc := vp_in (nI (294 + 11 * l)) 620 ∧ True) rfl (by decide +kernel) rfl ⟨(vp_in_nI (by omega) (by omega)), trivial⟩ ?_
  try rw [nI_clamp (n := (294 + 11 * l)) (by omega)]
  try rw [show (0 : Int32).toNatClampNeg = 0 from by decide]
  try rw [nI_clamp (n := 294 + 11 * l) (by omega)]
  exact K
set_option maxHeartbeats 4000000 in
set_option maxRecDepth 100000 in
theorem s_X10_addsLetter_5 (P : Option Value → pm_Mm → Prop) {l : Nat} (hl : l < 30) (pe we re : Int32) (μ : pm_Mm) (K : pm_V mi_X10_addsLetter (P, pm_NX, fun _ _ _ => True) 0 0 13 [some (.ref 47), some (.int pe), some (.int we), some (.int re), some (.int (nI l)), some (.int 6)] [] (pm_set μ 48 (295 + 11 * l) (-1))) : pm_V mi_X10_addsLetter (P, pm_NX, fun _ _ _ => True) 0 0 13 [some (.ref 47), some (.int pe), some (.int we), some (.int re), some (.int (nI l)), some (.int 5)] [] μ := by
  refine pm_bl [(.iload 5, 2, 5, 0, 0), (.bipush 11, 2, 0, 0, 11)] (pc1 := 17) (lo1 := [some (.ref 47), some (.int pe), some (.int we), some (.int re), some (.int (nI l)), some (.int 5)]) (st1 := [.int 11, .int 5]) (μ1 := μ) (vc := True) rfl (by decide +kernel) rfl trivial ?_
  refine pm_icmp_ge (off := 83) 100 (by decide +kernel) (by decide) (fun h9 => absurd h9 (by decide)) (fun _ => ?_)
  refine pm_bl [(.aload_n 0, 1, 0, 0, 0), (.getfield 7, 3, 10, 0, 0), (.iload 4, 2, 4, 0, 0), (.iload 5, 2, 5, 0, 0)] (pc1 := 28) (lo1 := [some (.ref 47), some (.int pe), some (.int we), some (.int re), some (.int (nI l)), some (.int 5)]) (st1 := [.int 5, .int (nI l), .ref 48]) (μ1 := μ) (vc := True) rfl (by decide +kernel) rfl trivial ?_
  refine pm_callS2 mi_X10_at (ix := 127) (kc2 := 0) (ks2 := 0) (As := [.int (nI l), .int 5]) (rest := [.ref 48]) (c_X10_at (k := l) (c := 5) (n := 295 + 11 * l) μ (by omega)) cal_X10_at lk10_127 (by decide +kernel) rfl (by decide +kernel) rfl rfl (Nat.le_of_ble_eq_true rfl) (by decide) (by decide) (fun _ _ h9 => h9.elim) ?_
  rintro _ _ ⟨rfl, h9⟩; rw [h9]; clear h9
  show pm_V _ _ _ _ 31 _ [.int (nI (295 + 11 * l)), .ref 48] _
  refine pm_bl [(.iload 5, 2, 5, 0, 0)] (pc1 := 33) (lo1 := [some (.ref 47), some (.int pe), some (.int we), some (.int re), some (.int (nI l)), some (.int 5)]) (st1 := [.int 5, .int (nI (295 + 11 * l)), .ref 48]) (μ1 := μ) (vc := True) rfl (by decide +kernel) rfl trivial ?_
  refine pm_if_ne (off := 7) 40 (by decide +kernel) (by decide) (fun _ => ?_) (fun h9 => absurd h9 (by decide))
  refine pm_bl [(.iload 5, 2, 5, 0, 0), (.iconst 1, 1, 0, 0, 1)] (pc1 := 43) (lo1 := [some (.ref 47), some (.int pe), some (.int we), some (.int re), some (.int (nI l)), some (.int 5)]) (st1 := [.int 1, .int 5, .int (nI (295 + 11 * l)), .ref 48]) (μ1 := μ) (vc := True) rfl (by decide +kernel) rfl trivial ?_
  refine pm_icmp_ne (off := 7) 50 (by decide +kernel) (by decide) (fun _ => ?_) (fun h9 => absurd h9 (by decide))
  refine pm_bl [(.iload 5, 2, 5, 0, 0), (.iconst 2, 1, 0, 0, 2)] (pc1 := 53) (lo1 := [some (.ref 47), some (.int pe), some (.int we), some (.int re), some (.int (nI l)), some (.int 5)]) (st1 := [.int 2, .int 5, .int (nI (295 + 11 * l)), .ref 48]) (μ1 := μ) (vc := True) rfl (by decide +kernel) rfl trivial ?_
  refine pm_icmp_ne (off := 7) 60 (by decide +kernel) (by decide) (fun _ => ?_) (fun h9 => absurd h9 (by decide))
  refine pm_bl [(.iload 5, 2, 5, 0, 0), (.iconst 3, 1, 0, 0, 3)] (pc1 := 63) (lo1 := [some (.ref 47), some (.int pe), some (.int we), some (.int re), some (.int (nI l)), some (.int 5)]) (st1 := [.int 3, .int 5, .int (nI (295 + 11 * l)), .ref 48]) (μ1 := μ) (vc := True) rfl (by decide +kernel) rfl trivial ?_
  refine pm_icmp_ne (off := 12) 75 (by decide +kernel) (by decide) (fun _ => ?_) (fun h9 => absurd h9 (by decide))
  refine pm_bl [(.iload 5, 2, 5, 0, 0), (.iconst 4, 1, 0, 0, 4)] (pc1 := 78) (lo1 := [some (.ref 47), some (.int pe), some (.int we), some (.int re), some (.int (nI l)), some (.int 5)]) (st1 := [.int 4, .int 5, .int (nI (295 + 11 * l)), .ref 48]) (μ1 := μ) (vc := True) rfl (by decide +kernel) rfl trivial ?_
  refine pm_icmp_eq (off := 10) 88 (by decide +kernel) (by decide) (fun h9 => absurd h9 (by decide)) (fun _ => ?_)
  refine pm_bl [(.iload 5, 2, 5, 0, 0), (.bipush 7, 2, 0, 0, 7)] (pc1 := 85) (lo1 := [some (.ref 47), some (.int pe), some (.int we), some (.int re), some (.int (nI l)), some (.int 5)]) (st1 := [.int 7, .int 5, .int (nI (295 + 11 * l)), .ref 48]) (μ1 := μ) (vc := True) rfl (by decide +kernel) rfl trivial ?_
  refine pm_icmp_ne (off := 7) 92 (by decide +kernel) (by decide) (fun _ => ?_) (fun h9 => absurd h9 (by decide))
  refine pm_bl [(.iconst (-1), 1, 0, 0, (-1)), (.iastore, 1, 0, 0, 0), (.iinc 5 1, 3, 5, 0, 1), (.goto (-84), 3, 13, 0, 0)] (pc1 := 13) (lo1 := [some (.ref 47), some (.int pe), some (.int we), some (.int re), some (.int (nI l)), some (.int (5 + 1))]) (st1 := []) (μ1 := pm_set μ 48 ((nI (295 + 11 * l)).toNatClampNeg) (-1)) (vc := vp_in (nI (295 + 11 * l)) 620 ∧ True) rfl (by decide +kernel) rfl ⟨(vp_in_nI (by omega) (by omega)), trivial⟩ ?_
  try rw [nI_clamp (n := (295 + 11 * l)) (by omega)]
  try rw [show (0 : Int32).toNatClampNeg = 0 from by decide]
  try rw [nI_clamp (n := 295 + 11 * l) (by omega)]
  exact K
set_option maxHeartbeats 4000000 in
set_option maxRecDepth 100000 in
theorem s_X10_addsLetter_6 (P : Option Value → pm_Mm → Prop) {l : Nat} (hl : l < 30) (pe we re : Int32) (μ : pm_Mm) (K : pm_V mi_X10_addsLetter (P, pm_NX, fun _ _ _ => True) 0 0 13 [some (.ref 47), some (.int pe), some (.int we), some (.int re), some (.int (nI l)), some (.int 7)] [] (pm_set μ 48 (296 + 11 * l) (-1))) : pm_V mi_X10_addsLetter (P, pm_NX, fun _ _ _ => True) 0 0 13 [some (.ref 47), some (.int pe), some (.int we), some (.int re), some (.int (nI l)), some (.int 6)] [] μ := by
  refine pm_bl [(.iload 5, 2, 5, 0, 0), (.bipush 11, 2, 0, 0, 11)] (pc1 := 17) (lo1 := [some (.ref 47), some (.int pe), some (.int we), some (.int re), some (.int (nI l)), some (.int 6)]) (st1 := [.int 11, .int 6]) (μ1 := μ) (vc := True) rfl (by decide +kernel) rfl trivial ?_
  refine pm_icmp_ge (off := 83) 100 (by decide +kernel) (by decide) (fun h9 => absurd h9 (by decide)) (fun _ => ?_)
  refine pm_bl [(.aload_n 0, 1, 0, 0, 0), (.getfield 7, 3, 10, 0, 0), (.iload 4, 2, 4, 0, 0), (.iload 5, 2, 5, 0, 0)] (pc1 := 28) (lo1 := [some (.ref 47), some (.int pe), some (.int we), some (.int re), some (.int (nI l)), some (.int 6)]) (st1 := [.int 6, .int (nI l), .ref 48]) (μ1 := μ) (vc := True) rfl (by decide +kernel) rfl trivial ?_
  refine pm_callS2 mi_X10_at (ix := 127) (kc2 := 0) (ks2 := 0) (As := [.int (nI l), .int 6]) (rest := [.ref 48]) (c_X10_at (k := l) (c := 6) (n := 296 + 11 * l) μ (by omega)) cal_X10_at lk10_127 (by decide +kernel) rfl (by decide +kernel) rfl rfl (Nat.le_of_ble_eq_true rfl) (by decide) (by decide) (fun _ _ h9 => h9.elim) ?_
  rintro _ _ ⟨rfl, h9⟩; rw [h9]; clear h9
  show pm_V _ _ _ _ 31 _ [.int (nI (296 + 11 * l)), .ref 48] _
  refine pm_bl [(.iload 5, 2, 5, 0, 0)] (pc1 := 33) (lo1 := [some (.ref 47), some (.int pe), some (.int we), some (.int re), some (.int (nI l)), some (.int 6)]) (st1 := [.int 6, .int (nI (296 + 11 * l)), .ref 48]) (μ1 := μ) (vc := True) rfl (by decide +kernel) rfl trivial ?_
  refine pm_if_ne (off := 7) 40 (by decide +kernel) (by decide) (fun _ => ?_) (fun h9 => absurd h9 (by decide))
  refine pm_bl [(.iload 5, 2, 5, 0, 0), (.iconst 1, 1, 0, 0, 1)] (pc1 := 43) (lo1 := [some (.ref 47), some (.int pe), some (.int we), some (.int re), some (.int (nI l)), some (.int 6)]) (st1 := [.int 1, .int 6, .int (nI (296 + 11 * l)), .ref 48]) (μ1 := μ) (vc := True) rfl (by decide +kernel) rfl trivial ?_
  refine pm_icmp_ne (off := 7) 50 (by decide +kernel) (by decide) (fun _ => ?_) (fun h9 => absurd h9 (by decide))
  refine pm_bl [(.iload 5, 2, 5, 0, 0), (.iconst 2, 1, 0, 0, 2)] (pc1 := 53) (lo1 := [some (.ref 47), some (.int pe), some (.int we), some (.int re), some (.int (nI l)), some (.int 6)]) (st1 := [.int 2, .int 6, .int (nI (296 + 11 * l)), .ref 48]) (μ1 := μ) (vc := True) rfl (by decide +kernel) rfl trivial ?_
  refine pm_icmp_ne (off := 7) 60 (by decide +kernel) (by decide) (fun _ => ?_) (fun h9 => absurd h9 (by decide))
  refine pm_bl [(.iload 5, 2, 5, 0, 0), (.iconst 3, 1, 0, 0, 3)] (pc1 := 63) (lo1 := [some (.ref 47), some (.int pe), some (.int we), some (.int re), some (.int (nI l)), some (.int 6)]) (st1 := [.int 3, .int 6, .int (nI (296 + 11 * l)), .ref 48]) (μ1 := μ) (vc := True) rfl (by decide +kernel) rfl trivial ?_
  refine pm_icmp_ne (off := 12) 75 (by decide +kernel) (by decide) (fun _ => ?_) (fun h9 => absurd h9 (by decide))
  refine pm_bl [(.iload 5, 2, 5, 0, 0), (.iconst 4, 1, 0, 0, 4)] (pc1 := 78) (lo1 := [some (.ref 47), some (.int pe), some (.int we), some (.int re), some (.int (nI l)), some (.int 6)]) (st1 := [.int 4, .int 6, .int (nI (296 + 11 * l)), .ref 48]) (μ1 := μ) (vc := True) rfl (by decide +kernel) rfl trivial ?_
  refine pm_icmp_eq (off := 10) 88 (by decide +kernel) (by decide) (fun h9 => absurd h9 (by decide)) (fun _ => ?_)
  refine pm_bl [(.iload 5, 2, 5, 0, 0), (.bipush 7, 2, 0, 0, 7)] (pc1 := 85) (lo1 := [some (.ref 47), some (.int pe), some (.int we), some (.int re), some (.int (nI l)), some (.int 6)]) (st1 := [.int 7, .int 6, .int (nI (296 + 11 * l)), .ref 48]) (μ1 := μ) (vc := True) rfl (by decide +kernel) rfl trivial ?_
  refine pm_icmp_ne (off := 7) 92 (by decide +kernel) (by decide) (fun _ => ?_) (fun h9 => absurd h9 (by decide))
  refine pm_bl [(.iconst (-1), 1, 0, 0, (-1)), (.iastore, 1, 0, 0, 0), (.iinc 5 1, 3, 5, 0, 1), (.goto (-84), 3, 13, 0, 0)] (pc1 := 13) (lo1 := [some (.ref 47), some (.int pe), some (.int we), some (.int re), some (.int (nI l)), some (.int (6 + 1))]) (st1 := []) (μ1 := pm_set μ 48 ((nI (296 + 11 * l)).toNatClampNeg) (-1)) (vc := vp_in (nI (296 + 11 * l)) 620 ∧ True) rfl (by decide +kernel) rfl ⟨(vp_in_nI (by omega) (by omega)), trivial⟩ ?_
  try rw [nI_clamp (n := (296 + 11 * l)) (by omega)]
  try rw [show (0 : Int32).toNatClampNeg = 0 from by decide]
  try rw [nI_clamp (n := 296 + 11 * l) (by omega)]
  exact K
set_option maxHeartbeats 4000000 in
set_option maxRecDepth 100000 in
theorem s_X10_addsLetter_7 (P : Option Value → pm_Mm → Prop) {l : Nat} (hl : l < 30) (pe we re : Int32) (μ : pm_Mm) (K : pm_V mi_X10_addsLetter (P, pm_NX, fun _ _ _ => True) 0 0 13 [some (.ref 47), some (.int pe), some (.int we), some (.int re), some (.int (nI l)), some (.int 8)] [] (pm_set μ 48 (297 + 11 * l) 0)) : pm_V mi_X10_addsLetter (P, pm_NX, fun _ _ _ => True) 0 0 13 [some (.ref 47), some (.int pe), some (.int we), some (.int re), some (.int (nI l)), some (.int 7)] [] μ := by
  refine pm_bl [(.iload 5, 2, 5, 0, 0), (.bipush 11, 2, 0, 0, 11)] (pc1 := 17) (lo1 := [some (.ref 47), some (.int pe), some (.int we), some (.int re), some (.int (nI l)), some (.int 7)]) (st1 := [.int 11, .int 7]) (μ1 := μ) (vc := True) rfl (by decide +kernel) rfl trivial ?_
  refine pm_icmp_ge (off := 83) 100 (by decide +kernel) (by decide) (fun h9 => absurd h9 (by decide)) (fun _ => ?_)
  refine pm_bl [(.aload_n 0, 1, 0, 0, 0), (.getfield 7, 3, 10, 0, 0), (.iload 4, 2, 4, 0, 0), (.iload 5, 2, 5, 0, 0)] (pc1 := 28) (lo1 := [some (.ref 47), some (.int pe), some (.int we), some (.int re), some (.int (nI l)), some (.int 7)]) (st1 := [.int 7, .int (nI l), .ref 48]) (μ1 := μ) (vc := True) rfl (by decide +kernel) rfl trivial ?_
  refine pm_callS2 mi_X10_at (ix := 127) (kc2 := 0) (ks2 := 0) (As := [.int (nI l), .int 7]) (rest := [.ref 48]) (c_X10_at (k := l) (c := 7) (n := 297 + 11 * l) μ (by omega)) cal_X10_at lk10_127 (by decide +kernel) rfl (by decide +kernel) rfl rfl (Nat.le_of_ble_eq_true rfl) (by decide) (by decide) (fun _ _ h9 => h9.elim) ?_
  rintro _ _ ⟨rfl, h9⟩; rw [h9]; clear h9
  show pm_V _ _ _ _ 31 _ [.int (nI (297 + 11 * l)), .ref 48] _
  refine pm_bl [(.iload 5, 2, 5, 0, 0)] (pc1 := 33) (lo1 := [some (.ref 47), some (.int pe), some (.int we), some (.int re), some (.int (nI l)), some (.int 7)]) (st1 := [.int 7, .int (nI (297 + 11 * l)), .ref 48]) (μ1 := μ) (vc := True) rfl (by decide +kernel) rfl trivial ?_
  refine pm_if_ne (off := 7) 40 (by decide +kernel) (by decide) (fun _ => ?_) (fun h9 => absurd h9 (by decide))
  refine pm_bl [(.iload 5, 2, 5, 0, 0), (.iconst 1, 1, 0, 0, 1)] (pc1 := 43) (lo1 := [some (.ref 47), some (.int pe), some (.int we), some (.int re), some (.int (nI l)), some (.int 7)]) (st1 := [.int 1, .int 7, .int (nI (297 + 11 * l)), .ref 48]) (μ1 := μ) (vc := True) rfl (by decide +kernel) rfl trivial ?_
  refine pm_icmp_ne (off := 7) 50 (by decide +kernel) (by decide) (fun _ => ?_) (fun h9 => absurd h9 (by decide))
  refine pm_bl [(.iload 5, 2, 5, 0, 0), (.iconst 2, 1, 0, 0, 2)] (pc1 := 53) (lo1 := [some (.ref 47), some (.int pe), some (.int we), some (.int re), some (.int (nI l)), some (.int 7)]) (st1 := [.int 2, .int 7, .int (nI (297 + 11 * l)), .ref 48]) (μ1 := μ) (vc := True) rfl (by decide +kernel) rfl trivial ?_
  refine pm_icmp_ne (off := 7) 60 (by decide +kernel) (by decide) (fun _ => ?_) (fun h9 => absurd h9 (by decide))
  refine pm_bl [(.iload 5, 2, 5, 0, 0), (.iconst 3, 1, 0, 0, 3)] (pc1 := 63) (lo1 := [some (.ref 47), some (.int pe), some (.int we), some (.int re), some (.int (nI l)), some (.int 7)]) (st1 := [.int 3, .int 7, .int (nI (297 + 11 * l)), .ref 48]) (μ1 := μ) (vc := True) rfl (by decide +kernel) rfl trivial ?_
  refine pm_icmp_ne (off := 12) 75 (by decide +kernel) (by decide) (fun _ => ?_) (fun h9 => absurd h9 (by decide))
  refine pm_bl [(.iload 5, 2, 5, 0, 0), (.iconst 4, 1, 0, 0, 4)] (pc1 := 78) (lo1 := [some (.ref 47), some (.int pe), some (.int we), some (.int re), some (.int (nI l)), some (.int 7)]) (st1 := [.int 4, .int 7, .int (nI (297 + 11 * l)), .ref 48]) (μ1 := μ) (vc := True) rfl (by decide +kernel) rfl trivial ?_
  refine pm_icmp_eq (off := 10) 88 (by decide +kernel) (by decide) (fun h9 => absurd h9 (by decide)) (fun _ => ?_)
  refine pm_bl [(.iload 5, 2, 5, 0, 0), (.bipush 7, 2, 0, 0, 7)] (pc1 := 85) (lo1 := [some (.ref 47), some (.int pe), some (.int we), some (.int re), some (.int (nI l)), some (.int 7)]) (st1 := [.int 7, .int 7, .int (nI (297 + 11 * l)), .ref 48]) (μ1 := μ) (vc := True) rfl (by decide +kernel) rfl trivial ?_
  refine pm_icmp_ne (off := 7) 92 (by decide +kernel) (by decide) (fun h9 => absurd h9 (by decide)) (fun _ => ?_)
  refine pm_bl [(.iconst 0, 1, 0, 0, 0), (.goto 4, 3, 93, 0, 0), (.iastore, 1, 0, 0, 0), (.iinc 5 1, 3, 5, 0, 1), (.goto (-84), 3, 13, 0, 0)] (pc1 := 13) (lo1 := [some (.ref 47), some (.int pe), some (.int we), some (.int re), some (.int (nI l)), some (.int (7 + 1))]) (st1 := []) (μ1 := pm_set μ 48 ((nI (297 + 11 * l)).toNatClampNeg) 0) (vc := vp_in (nI (297 + 11 * l)) 620 ∧ True) rfl (by decide +kernel) rfl ⟨(vp_in_nI (by omega) (by omega)), trivial⟩ ?_
  try rw [nI_clamp (n := (297 + 11 * l)) (by omega)]
  try rw [show (0 : Int32).toNatClampNeg = 0 from by decide]
  try rw [nI_clamp (n := 297 + 11 * l) (by omega)]
  exact K
set_option maxHeartbeats 4000000 in
set_option maxRecDepth 100000 in
theorem s_X10_addsLetter_8 (P : Option Value → pm_Mm → Prop) {l : Nat} (hl : l < 30) (pe we re : Int32) (μ : pm_Mm) (K : pm_V mi_X10_addsLetter (P, pm_NX, fun _ _ _ => True) 0 0 13 [some (.ref 47), some (.int pe), some (.int we), some (.int re), some (.int (nI l)), some (.int 9)] [] (pm_set μ 48 (298 + 11 * l) (-1))) : pm_V mi_X10_addsLetter (P, pm_NX, fun _ _ _ => True) 0 0 13 [some (.ref 47), some (.int pe), some (.int we), some (.int re), some (.int (nI l)), some (.int 8)] [] μ := by
  refine pm_bl [(.iload 5, 2, 5, 0, 0), (.bipush 11, 2, 0, 0, 11)] (pc1 := 17) (lo1 := [some (.ref 47), some (.int pe), some (.int we), some (.int re), some (.int (nI l)), some (.int 8)]) (st1 := [.int 11, .int 8]) (μ1 := μ) (vc := True) rfl (by decide +kernel) rfl trivial ?_
  refine pm_icmp_ge (off := 83) 100 (by decide +kernel) (by decide) (fun h9 => absurd h9 (by decide)) (fun _ => ?_)
  refine pm_bl [(.aload_n 0, 1, 0, 0, 0), (.getfield 7, 3, 10, 0, 0), (.iload 4, 2, 4, 0, 0), (.iload 5, 2, 5, 0, 0)] (pc1 := 28) (lo1 := [some (.ref 47), some (.int pe), some (.int we), some (.int re), some (.int (nI l)), some (.int 8)]) (st1 := [.int 8, .int (nI l), .ref 48]) (μ1 := μ) (vc := True) rfl (by decide +kernel) rfl trivial ?_
  refine pm_callS2 mi_X10_at (ix := 127) (kc2 := 0) (ks2 := 0) (As := [.int (nI l), .int 8]) (rest := [.ref 48]) (c_X10_at (k := l) (c := 8) (n := 298 + 11 * l) μ (by omega)) cal_X10_at lk10_127 (by decide +kernel) rfl (by decide +kernel) rfl rfl (Nat.le_of_ble_eq_true rfl) (by decide) (by decide) (fun _ _ h9 => h9.elim) ?_
  rintro _ _ ⟨rfl, h9⟩; rw [h9]; clear h9
  show pm_V _ _ _ _ 31 _ [.int (nI (298 + 11 * l)), .ref 48] _
  refine pm_bl [(.iload 5, 2, 5, 0, 0)] (pc1 := 33) (lo1 := [some (.ref 47), some (.int pe), some (.int we), some (.int re), some (.int (nI l)), some (.int 8)]) (st1 := [.int 8, .int (nI (298 + 11 * l)), .ref 48]) (μ1 := μ) (vc := True) rfl (by decide +kernel) rfl trivial ?_
  refine pm_if_ne (off := 7) 40 (by decide +kernel) (by decide) (fun _ => ?_) (fun h9 => absurd h9 (by decide))
  refine pm_bl [(.iload 5, 2, 5, 0, 0), (.iconst 1, 1, 0, 0, 1)] (pc1 := 43) (lo1 := [some (.ref 47), some (.int pe), some (.int we), some (.int re), some (.int (nI l)), some (.int 8)]) (st1 := [.int 1, .int 8, .int (nI (298 + 11 * l)), .ref 48]) (μ1 := μ) (vc := True) rfl (by decide +kernel) rfl trivial ?_
  refine pm_icmp_ne (off := 7) 50 (by decide +kernel) (by decide) (fun _ => ?_) (fun h9 => absurd h9 (by decide))
  refine pm_bl [(.iload 5, 2, 5, 0, 0), (.iconst 2, 1, 0, 0, 2)] (pc1 := 53) (lo1 := [some (.ref 47), some (.int pe), some (.int we), some (.int re), some (.int (nI l)), some (.int 8)]) (st1 := [.int 2, .int 8, .int (nI (298 + 11 * l)), .ref 48]) (μ1 := μ) (vc := True) rfl (by decide +kernel) rfl trivial ?_
  refine pm_icmp_ne (off := 7) 60 (by decide +kernel) (by decide) (fun _ => ?_) (fun h9 => absurd h9 (by decide))
  refine pm_bl [(.iload 5, 2, 5, 0, 0), (.iconst 3, 1, 0, 0, 3)] (pc1 := 63) (lo1 := [some (.ref 47), some (.int pe), some (.int we), some (.int re), some (.int (nI l)), some (.int 8)]) (st1 := [.int 3, .int 8, .int (nI (298 + 11 * l)), .ref 48]) (μ1 := μ) (vc := True) rfl (by decide +kernel) rfl trivial ?_
  refine pm_icmp_ne (off := 12) 75 (by decide +kernel) (by decide) (fun _ => ?_) (fun h9 => absurd h9 (by decide))
  refine pm_bl [(.iload 5, 2, 5, 0, 0), (.iconst 4, 1, 0, 0, 4)] (pc1 := 78) (lo1 := [some (.ref 47), some (.int pe), some (.int we), some (.int re), some (.int (nI l)), some (.int 8)]) (st1 := [.int 4, .int 8, .int (nI (298 + 11 * l)), .ref 48]) (μ1 := μ) (vc := True) rfl (by decide +kernel) rfl trivial ?_
  refine pm_icmp_eq (off := 10) 88 (by decide +kernel) (by decide) (fun h9 => absurd h9 (by decide)) (fun _ => ?_)
  refine pm_bl [(.iload 5, 2, 5, 0, 0), (.bipush 7, 2, 0, 0, 7)] (pc1 := 85) (lo1 := [some (.ref 47), some (.int pe), some (.int we), some (.int re), some (.int (nI l)), some (.int 8)]) (st1 := [.int 7, .int 8, .int (nI (298 + 11 * l)), .ref 48]) (μ1 := μ) (vc := True) rfl (by decide +kernel) rfl trivial ?_
  refine pm_icmp_ne (off := 7) 92 (by decide +kernel) (by decide) (fun _ => ?_) (fun h9 => absurd h9 (by decide))
  refine pm_bl [(.iconst (-1), 1, 0, 0, (-1)), (.iastore, 1, 0, 0, 0), (.iinc 5 1, 3, 5, 0, 1), (.goto (-84), 3, 13, 0, 0)] (pc1 := 13) (lo1 := [some (.ref 47), some (.int pe), some (.int we), some (.int re), some (.int (nI l)), some (.int (8 + 1))]) (st1 := []) (μ1 := pm_set μ 48 ((nI (298 + 11 * l)).toNatClampNeg) (-1)) (vc := vp_in (nI (298 + 11 * l)) 620 ∧ True) rfl (by decide +kernel) rfl ⟨(vp_in_nI (by omega) (by omega)), trivial⟩ ?_
  try rw [nI_clamp (n := (298 + 11 * l)) (by omega)]
  try rw [show (0 : Int32).toNatClampNeg = 0 from by decide]
  try rw [nI_clamp (n := 298 + 11 * l) (by omega)]
  exact K
set_option maxHeartbeats 4000000 in
set_option maxRecDepth 100000 in
theorem s_X10_addsLetter_9 (P : Option Value → pm_Mm → Prop) {l : Nat} (hl : l < 30) (pe we re : Int32) (μ : pm_Mm) (K : pm_V mi_X10_addsLetter (P, pm_NX, fun _ _ _ => True) 0 0 13 [some (.ref 47), some (.int pe), some (.int we), some (.int re), some (.int (nI l)), some (.int 10)] [] (pm_set μ 48 (299 + 11 * l) (-1))) : pm_V mi_X10_addsLetter (P, pm_NX, fun _ _ _ => True) 0 0 13 [some (.ref 47), some (.int pe), some (.int we), some (.int re), some (.int (nI l)), some (.int 9)] [] μ := by
  refine pm_bl [(.iload 5, 2, 5, 0, 0), (.bipush 11, 2, 0, 0, 11)] (pc1 := 17) (lo1 := [some (.ref 47), some (.int pe), some (.int we), some (.int re), some (.int (nI l)), some (.int 9)]) (st1 := [.int 11, .int 9]) (μ1 := μ) (vc := True) rfl (by decide +kernel) rfl trivial ?_
  refine pm_icmp_ge (off := 83) 100 (by decide +kernel) (by decide) (fun h9 => absurd h9 (by decide)) (fun _ => ?_)
  refine pm_bl [(.aload_n 0, 1, 0, 0, 0), (.getfield 7, 3, 10, 0, 0), (.iload 4, 2, 4, 0, 0), (.iload 5, 2, 5, 0, 0)] (pc1 := 28) (lo1 := [some (.ref 47), some (.int pe), some (.int we), some (.int re), some (.int (nI l)), some (.int 9)]) (st1 := [.int 9, .int (nI l), .ref 48]) (μ1 := μ) (vc := True) rfl (by decide +kernel) rfl trivial ?_
  refine pm_callS2 mi_X10_at (ix := 127) (kc2 := 0) (ks2 := 0) (As := [.int (nI l), .int 9]) (rest := [.ref 48]) (c_X10_at (k := l) (c := 9) (n := 299 + 11 * l) μ (by omega)) cal_X10_at lk10_127 (by decide +kernel) rfl (by decide +kernel) rfl rfl (Nat.le_of_ble_eq_true rfl) (by decide) (by decide) (fun _ _ h9 => h9.elim) ?_
  rintro _ _ ⟨rfl, h9⟩; rw [h9]; clear h9
  show pm_V _ _ _ _ 31 _ [.int (nI (299 + 11 * l)), .ref 48] _
  refine pm_bl [(.iload 5, 2, 5, 0, 0)] (pc1 := 33) (lo1 := [some (.ref 47), some (.int pe), some (.int we), some (.int re), some (.int (nI l)), some (.int 9)]) (st1 := [.int 9, .int (nI (299 + 11 * l)), .ref 48]) (μ1 := μ) (vc := True) rfl (by decide +kernel) rfl trivial ?_
  refine pm_if_ne (off := 7) 40 (by decide +kernel) (by decide) (fun _ => ?_) (fun h9 => absurd h9 (by decide))
  refine pm_bl [(.iload 5, 2, 5, 0, 0), (.iconst 1, 1, 0, 0, 1)] (pc1 := 43) (lo1 := [some (.ref 47), some (.int pe), some (.int we), some (.int re), some (.int (nI l)), some (.int 9)]) (st1 := [.int 1, .int 9, .int (nI (299 + 11 * l)), .ref 48]) (μ1 := μ) (vc := True) rfl (by decide +kernel) rfl trivial ?_
  refine pm_icmp_ne (off := 7) 50 (by decide +kernel) (by decide) (fun _ => ?_) (fun h9 => absurd h9 (by decide))
  refine pm_bl [(.iload 5, 2, 5, 0, 0), (.iconst 2, 1, 0, 0, 2)] (pc1 := 53) (lo1 := [some (.ref 47), some (.int pe), some (.int we), some (.int re), some (.int (nI l)), some (.int 9)]) (st1 := [.int 2, .int 9, .int (nI (299 + 11 * l)), .ref 48]) (μ1 := μ) (vc := True) rfl (by decide +kernel) rfl trivial ?_
  refine pm_icmp_ne (off := 7) 60 (by decide +kernel) (by decide) (fun _ => ?_) (fun h9 => absurd h9 (by decide))
  refine pm_bl [(.iload 5, 2, 5, 0, 0), (.iconst 3, 1, 0, 0, 3)] (pc1 := 63) (lo1 := [some (.ref 47), some (.int pe), some (.int we), some (.int re), some (.int (nI l)), some (.int 9)]) (st1 := [.int 3, .int 9, .int (nI (299 + 11 * l)), .ref 48]) (μ1 := μ) (vc := True) rfl (by decide +kernel) rfl trivial ?_
  refine pm_icmp_ne (off := 12) 75 (by decide +kernel) (by decide) (fun _ => ?_) (fun h9 => absurd h9 (by decide))
  refine pm_bl [(.iload 5, 2, 5, 0, 0), (.iconst 4, 1, 0, 0, 4)] (pc1 := 78) (lo1 := [some (.ref 47), some (.int pe), some (.int we), some (.int re), some (.int (nI l)), some (.int 9)]) (st1 := [.int 4, .int 9, .int (nI (299 + 11 * l)), .ref 48]) (μ1 := μ) (vc := True) rfl (by decide +kernel) rfl trivial ?_
  refine pm_icmp_eq (off := 10) 88 (by decide +kernel) (by decide) (fun h9 => absurd h9 (by decide)) (fun _ => ?_)
  refine pm_bl [(.iload 5, 2, 5, 0, 0), (.bipush 7, 2, 0, 0, 7)] (pc1 := 85) (lo1 := [some (.ref 47), some (.int pe), some (.int we), some (.int re), some (.int (nI l)), some (.int 9)]) (st1 := [.int 7, .int 9, .int (nI (299 + 11 * l)), .ref 48]) (μ1 := μ) (vc := True) rfl (by decide +kernel) rfl trivial ?_
  refine pm_icmp_ne (off := 7) 92 (by decide +kernel) (by decide) (fun _ => ?_) (fun h9 => absurd h9 (by decide))
  refine pm_bl [(.iconst (-1), 1, 0, 0, (-1)), (.iastore, 1, 0, 0, 0), (.iinc 5 1, 3, 5, 0, 1), (.goto (-84), 3, 13, 0, 0)] (pc1 := 13) (lo1 := [some (.ref 47), some (.int pe), some (.int we), some (.int re), some (.int (nI l)), some (.int (9 + 1))]) (st1 := []) (μ1 := pm_set μ 48 ((nI (299 + 11 * l)).toNatClampNeg) (-1)) (vc := vp_in (nI (299 + 11 * l)) 620 ∧ True) rfl (by decide +kernel) rfl ⟨(vp_in_nI (by omega) (by omega)), trivial⟩ ?_
  try rw [nI_clamp (n := (299 + 11 * l)) (by omega)]
  try rw [show (0 : Int32).toNatClampNeg = 0 from by decide]
  try rw [nI_clamp (n := 299 + 11 * l) (by omega)]
  exact K
set_option maxHeartbeats 4000000 in
set_option maxRecDepth 100000 in
theorem s_X10_addsLetter_10 (P : Option Value → pm_Mm → Prop) {l : Nat} (hl : l < 30) (pe we re : Int32) (μ : pm_Mm) (K : pm_V mi_X10_addsLetter (P, pm_NX, fun _ _ _ => True) 0 0 13 [some (.ref 47), some (.int pe), some (.int we), some (.int re), some (.int (nI l)), some (.int 11)] [] (pm_set μ 48 (300 + 11 * l) (-1))) : pm_V mi_X10_addsLetter (P, pm_NX, fun _ _ _ => True) 0 0 13 [some (.ref 47), some (.int pe), some (.int we), some (.int re), some (.int (nI l)), some (.int 10)] [] μ := by
  refine pm_bl [(.iload 5, 2, 5, 0, 0), (.bipush 11, 2, 0, 0, 11)] (pc1 := 17) (lo1 := [some (.ref 47), some (.int pe), some (.int we), some (.int re), some (.int (nI l)), some (.int 10)]) (st1 := [.int 11, .int 10]) (μ1 := μ) (vc := True) rfl (by decide +kernel) rfl trivial ?_
  refine pm_icmp_ge (off := 83) 100 (by decide +kernel) (by decide) (fun h9 => absurd h9 (by decide)) (fun _ => ?_)
  refine pm_bl [(.aload_n 0, 1, 0, 0, 0), (.getfield 7, 3, 10, 0, 0), (.iload 4, 2, 4, 0, 0), (.iload 5, 2, 5, 0, 0)] (pc1 := 28) (lo1 := [some (.ref 47), some (.int pe), some (.int we), some (.int re), some (.int (nI l)), some (.int 10)]) (st1 := [.int 10, .int (nI l), .ref 48]) (μ1 := μ) (vc := True) rfl (by decide +kernel) rfl trivial ?_
  refine pm_callS2 mi_X10_at (ix := 127) (kc2 := 0) (ks2 := 0) (As := [.int (nI l), .int 10]) (rest := [.ref 48]) (c_X10_at (k := l) (c := 10) (n := 300 + 11 * l) μ (by omega)) cal_X10_at lk10_127 (by decide +kernel) rfl (by decide +kernel) rfl rfl (Nat.le_of_ble_eq_true rfl) (by decide) (by decide) (fun _ _ h9 => h9.elim) ?_
  rintro _ _ ⟨rfl, h9⟩; rw [h9]; clear h9
  show pm_V _ _ _ _ 31 _ [.int (nI (300 + 11 * l)), .ref 48] _
  refine pm_bl [(.iload 5, 2, 5, 0, 0)] (pc1 := 33) (lo1 := [some (.ref 47), some (.int pe), some (.int we), some (.int re), some (.int (nI l)), some (.int 10)]) (st1 := [.int 10, .int (nI (300 + 11 * l)), .ref 48]) (μ1 := μ) (vc := True) rfl (by decide +kernel) rfl trivial ?_
  refine pm_if_ne (off := 7) 40 (by decide +kernel) (by decide) (fun _ => ?_) (fun h9 => absurd h9 (by decide))
  refine pm_bl [(.iload 5, 2, 5, 0, 0), (.iconst 1, 1, 0, 0, 1)] (pc1 := 43) (lo1 := [some (.ref 47), some (.int pe), some (.int we), some (.int re), some (.int (nI l)), some (.int 10)]) (st1 := [.int 1, .int 10, .int (nI (300 + 11 * l)), .ref 48]) (μ1 := μ) (vc := True) rfl (by decide +kernel) rfl trivial ?_
  refine pm_icmp_ne (off := 7) 50 (by decide +kernel) (by decide) (fun _ => ?_) (fun h9 => absurd h9 (by decide))
  refine pm_bl [(.iload 5, 2, 5, 0, 0), (.iconst 2, 1, 0, 0, 2)] (pc1 := 53) (lo1 := [some (.ref 47), some (.int pe), some (.int we), some (.int re), some (.int (nI l)), some (.int 10)]) (st1 := [.int 2, .int 10, .int (nI (300 + 11 * l)), .ref 48]) (μ1 := μ) (vc := True) rfl (by decide +kernel) rfl trivial ?_
  refine pm_icmp_ne (off := 7) 60 (by decide +kernel) (by decide) (fun _ => ?_) (fun h9 => absurd h9 (by decide))
  refine pm_bl [(.iload 5, 2, 5, 0, 0), (.iconst 3, 1, 0, 0, 3)] (pc1 := 63) (lo1 := [some (.ref 47), some (.int pe), some (.int we), some (.int re), some (.int (nI l)), some (.int 10)]) (st1 := [.int 3, .int 10, .int (nI (300 + 11 * l)), .ref 48]) (μ1 := μ) (vc := True) rfl (by decide +kernel) rfl trivial ?_
  refine pm_icmp_ne (off := 12) 75 (by decide +kernel) (by decide) (fun _ => ?_) (fun h9 => absurd h9 (by decide))
  refine pm_bl [(.iload 5, 2, 5, 0, 0), (.iconst 4, 1, 0, 0, 4)] (pc1 := 78) (lo1 := [some (.ref 47), some (.int pe), some (.int we), some (.int re), some (.int (nI l)), some (.int 10)]) (st1 := [.int 4, .int 10, .int (nI (300 + 11 * l)), .ref 48]) (μ1 := μ) (vc := True) rfl (by decide +kernel) rfl trivial ?_
  refine pm_icmp_eq (off := 10) 88 (by decide +kernel) (by decide) (fun h9 => absurd h9 (by decide)) (fun _ => ?_)
  refine pm_bl [(.iload 5, 2, 5, 0, 0), (.bipush 7, 2, 0, 0, 7)] (pc1 := 85) (lo1 := [some (.ref 47), some (.int pe), some (.int we), some (.int re), some (.int (nI l)), some (.int 10)]) (st1 := [.int 7, .int 10, .int (nI (300 + 11 * l)), .ref 48]) (μ1 := μ) (vc := True) rfl (by decide +kernel) rfl trivial ?_
  refine pm_icmp_ne (off := 7) 92 (by decide +kernel) (by decide) (fun _ => ?_) (fun h9 => absurd h9 (by decide))
  refine pm_bl [(.iconst (-1), 1, 0, 0, (-1)), (.iastore, 1, 0, 0, 0), (.iinc 5 1, 3, 5, 0, 1), (.goto (-84), 3, 13, 0, 0)] (pc1 := 13) (lo1 := [some (.ref 47), some (.int pe), some (.int we), some (.int re), some (.int (nI l)), some (.int (10 + 1))]) (st1 := []) (μ1 := pm_set μ 48 ((nI (300 + 11 * l)).toNatClampNeg) (-1)) (vc := vp_in (nI (300 + 11 * l)) 620 ∧ True) rfl (by decide +kernel) rfl ⟨(vp_in_nI (by omega) (by omega)), trivial⟩ ?_
  try rw [nI_clamp (n := (300 + 11 * l)) (by omega)]
  try rw [show (0 : Int32).toNatClampNeg = 0 from by decide]
  try rw [nI_clamp (n := 300 + 11 * l) (by omega)]
  exact K
set_option maxHeartbeats 4000000 in
set_option maxRecDepth 100000 in
theorem t_X10_addsLetter {g : Nat → Int32} {pe we re : Int32} {μ : pm_Mm} (hG : lr_G g) (hn : lr_n g 289 < 30) (μ1 : pm_Mm) (hf : lr_fm μ μ1) (hM : μ1.1 48 = (upd (upd (upd (upd (upd (upd (upd (upd (upd (upd (upd g (290 + 11 * lr_n g 289) pe) (291 + 11 * lr_n g 289) we) (292 + 11 * lr_n g 289) re) (293 + 11 * lr_n g 289) (g 0)) (294 + 11 * lr_n g 289) 0) (295 + 11 * lr_n g 289) (-1)) (296 + 11 * lr_n g 289) (-1)) (297 + 11 * lr_n g 289) 0) (298 + 11 * lr_n g 289) (-1)) (299 + 11 * lr_n g 289) (-1)) (300 + 11 * lr_n g 289) (-1))) : pm_V mi_X10_addsLetter ((fun v μ2 => v = none ∧ lr_fm μ μ2 ∧ μ2.1 48 = lr_glet g pe we re (g 0)), pm_NX, fun _ _ _ => True) 0 0 13 [some (.ref 47), some (.int pe), some (.int we), some (.int re), some (.int (nI (lr_n g 289))), some (.int 11)] [] μ1 := by
  have h289 : μ1.1 48 289 = nI (lr_n g 289) := by rw [hM, upd_ne, upd_ne, upd_ne, upd_ne, upd_ne, upd_ne, upd_ne, upd_ne, upd_ne, upd_ne, upd_ne, lr_gl hG] <;> omega
  refine pm_bl [(.iload 5, 2, 5, 0, 0), (.bipush 11, 2, 0, 0, 11)] (pc1 := 17) (lo1 := [some (.ref 47), some (.int pe), some (.int we), some (.int re), some (.int (nI (lr_n g 289))), some (.int 11)]) (st1 := [.int 11, .int 11]) (μ1 := μ1) (vc := True) rfl (by decide +kernel) rfl trivial ?_
  refine pm_icmp_ge (off := 83) 100 (by decide +kernel) (by decide) (fun _ => ?_) (fun h9 => absurd h9 (by decide))
  refine pm_bl [(.aload_n 0, 1, 0, 0, 0), (.getfield 7, 3, 10, 0, 0), (.sipush 289, 3, 0, 0, 289), (.dup2, 1, 0, 0, 0), (.iaload, 1, 0, 0, 0)] (pc1 := 109) (lo1 := [some (.ref 47), some (.int pe), some (.int we), some (.int re), some (.int (nI (lr_n g 289))), some (.int 11)]) (st1 := [.int (μ1.1 48 (289 : Int32).toNatClampNeg), .int 289, .ref 48]) (μ1 := μ1) (vc := vp_in 289 620 ∧ True) rfl (by decide +kernel) rfl ⟨(by unfold vp_in; decide), trivial⟩ ?_
  rw [show (289 : Int32).toNatClampNeg = 289 from by decide, h289]
  refine pm_bl [(.iconst 1, 1, 0, 0, 1), (.iadd, 1, 0, 0, 0), (.iastore, 1, 0, 0, 0)] (pc1 := 112) (lo1 := [some (.ref 47), some (.int pe), some (.int we), some (.int re), some (.int (nI (lr_n g 289))), some (.int 11)]) (st1 := []) (μ1 := pm_set μ1 48 ((289 : Int32).toNatClampNeg) ((nI (lr_n g 289)) + 1)) (vc := vp_in 289 620 ∧ True) rfl (by decide +kernel) rfl ⟨(by unfold vp_in; decide), trivial⟩ ?_
  try rw [show (289 : Int32).toNatClampNeg = 289 from by decide]
  exact pm_vret rfl (by decide) (by decide) (by decide +kernel) (⟨rfl, hf.set, by rw [nI_1, pm_set_at, hM]; rfl⟩)
set_option maxHeartbeats 4000000 in
set_option maxRecDepth 100000 in
theorem c_X10_addsLetter {g : Nat → Int32} (pe we re : Int32) (μ : pm_Mm) (hM : μ.1 48 = g) (hG : lr_G g) (hn : lr_n g 289 < 30) : pm_CT mi_X10_addsLetter [.ref 47, .int pe, .int we, .int re] μ (fun v μ2 => v = none ∧ lr_fm μ μ2 ∧ μ2.1 48 = lr_glet g pe we re (g 0)) pm_NX := by
  refine pm_CT_of (lo := [some (.ref 47), some (.int pe), some (.int we), some (.int re), none, none]) (by decide +kernel) rfl rfl (by intro v hv; simp at hv; rcases hv with rfl | rfl | rfl | rfl <;> rfl) (Nat.le_of_ble_eq_true rfl) rfl ?_
  refine pm_bl [(.aload_n 0, 1, 0, 0, 0), (.getfield 7, 3, 10, 0, 0), (.sipush 289, 3, 0, 0, 289), (.iaload, 1, 0, 0, 0)] (pc1 := 8) (lo1 := [some (.ref 47), some (.int pe), some (.int we), some (.int re), none, none]) (st1 := [.int (μ.1 48 (289 : Int32).toNatClampNeg)]) (μ1 := μ) (vc := vp_in 289 620 ∧ True) rfl (by decide +kernel) rfl ⟨(by unfold vp_in; decide), trivial⟩ ?_
  rw [show (289 : Int32).toNatClampNeg = 289 from by decide, hM, lr_gl hG]
  refine pm_bl [(.istore 4, 2, 4, 0, 0), (.iconst 0, 1, 0, 0, 0), (.istore 5, 2, 5, 0, 0)] (pc1 := 13) (lo1 := [some (.ref 47), some (.int pe), some (.int we), some (.int re), some (.int (nI (lr_n g 289))), some (.int 0)]) (st1 := []) (μ1 := μ) (vc := True) rfl (by decide +kernel) rfl trivial ?_
  refine s_X10_addsLetter_0 _ hn pe we re _ ?_
  refine s_X10_addsLetter_1 _ hn pe we re _ ?_
  refine s_X10_addsLetter_2 _ hn pe we re _ ?_
  refine s_X10_addsLetter_3 _ hn pe we re _ ?_
  refine s_X10_addsLetter_4 _ hn pe we re _ ?_
  refine s_X10_addsLetter_5 _ hn pe we re _ ?_
  refine s_X10_addsLetter_6 _ hn pe we re _ ?_
  refine s_X10_addsLetter_7 _ hn pe we re _ ?_
  refine s_X10_addsLetter_8 _ hn pe we re _ ?_
  refine s_X10_addsLetter_9 _ hn pe we re _ ?_
  refine s_X10_addsLetter_10 _ hn pe we re _ ?_
  have e0 : (pm_set (pm_set (pm_set μ 48 (290 + 11 * lr_n g 289) pe) 48 (291 + 11 * lr_n g 289) we) 48 (292 + 11 * lr_n g 289) re).1 48 0 = g 0 := by rw [pm_set_miss, pm_set_miss, pm_set_miss, hM] <;> (right; omega)
  rw [e0]
  exact t_X10_addsLetter hG hn _ (lr_fm.set (lr_fm.set (lr_fm.set (lr_fm.set (lr_fm.set (lr_fm.set (lr_fm.set (lr_fm.set (lr_fm.set (lr_fm.set (lr_fm.set lr_fm.rf))))))))))) (by simp only [pm_set_at]; rw [hM])
set_option maxHeartbeats 4000000 in
set_option maxRecDepth 100000 in
theorem c_X10_addLetter_y0 {g : Nat → Int32} {h c : Nat} {y : Int32} (μ : pm_Mm) (hM : μ.1 48 = g) (hG : lr_G g) (hp : μ.1 47 5 = nI c) (hc8 : c ≤ 8) (hh : h < lr_n g 35) (hl : lr_in y 1 9 = true) (hn : lr_n g 289 < 30) : pm_CT mi_X10_addLetter [.ref 47, .int (nI h), .int y, .int 0] μ (fun v μ2 => v = some (.int (nI (lr_n g 289))) ∧ lr_fm (lr_chg (pm_set μ 47 7 0) 48) μ2 ∧ μ2.1 48 = lr_glet g (nI h) y 0 (g 0)) pm_NX := by
  refine pm_CT_of (lo := [some (.ref 47), some (.int (nI h)), some (.int y), some (.int 0)]) (by decide +kernel) rfl rfl (by intro v hv; simp at hv; rcases hv with rfl | rfl | rfl | rfl <;> rfl) (Nat.le_of_ble_eq_true rfl) rfl ?_
  have hm1 := lr_mh hG; have hm2 := lr_mw hG; have hm3 := lr_mp hG; have hm4 := lr_mr hG; have hm5 := lr_ma hG; have hm6 := lr_ml hG
  refine pm_bl [(.aload_n 0, 1, 0, 0, 0), (.aload_n 0, 1, 0, 0, 0), (.iload_n 1, 1, 1, 0, 0)] (pc1 := 3) (lo1 := [some (.ref 47), some (.int (nI h)), some (.int y), some (.int 0)]) (st1 := [.int (nI h), .ref 47, .ref 47]) (μ1 := μ) (vc := True) rfl (by decide +kernel) rfl trivial ?_
  refine pm_callV2 mi_X10_isPerson (ix := 102) (b := 47) (ci := 10) (kc2 := 0) (ks2 := 0) (As := [.int (nI h)]) (rest := [.ref 47]) (c_X10_isPerson (nI h) μ hM hG) cal_X10_isPerson lk10_102 (by decide +kernel) rfl (by decide +kernel) rfl rfl rfl rfl (Nat.le_of_ble_eq_true rfl) (by decide) (by decide) (fun _ _ h9 => h9.elim) ?_
  rintro _ _ ⟨rfl, h9⟩; rw [h9]; clear h9
  show pm_V _ _ _ _ 6 _ [.int (lr_b (lr_be (nI h) (nI (lr_n g 35)))), .ref 47] _
  refine pm_ifb_ne (off := 7) 13 (by decide +kernel) (by decide) (fun (h6 : (lr_be (nI h) (nI (lr_n g 35))) = true) => ?_) (fun (h9 : (lr_be (nI h) (nI (lr_n g 35))) = false) => absurd (h9.symm.trans (lr_be_1 hh (by omega))) (by decide))
  refine pm_bl [(.iload_n 2, 1, 2, 0, 0), (.iconst 1, 1, 0, 0, 1), (.bipush 9, 2, 0, 0, 9)] (pc1 := 17) (lo1 := [some (.ref 47), some (.int (nI h)), some (.int y), some (.int 0)]) (st1 := [.int 9, .int 1, .int y, .ref 47]) (μ1 := μ) (vc := True) rfl (by decide +kernel) rfl trivial ?_
  refine pm_callS2 mi_X10_in (ix := 45) (kc2 := 0) (ks2 := 0) (As := [.int y, .int 1, .int 9]) (rest := [.ref 47]) (c_X10_in y 1 9 μ) cal_X10_in lk10_45 (by decide +kernel) rfl (by decide +kernel) rfl rfl (Nat.le_of_ble_eq_true rfl) (by decide) (by decide) (fun _ _ h9 => h9.elim) ?_
  rintro _ _ ⟨rfl, h9⟩; rw [h9]; clear h9
  show pm_V _ _ _ _ 20 _ [.int (lr_b (lr_in y 1 9)), .ref 47] _
  refine pm_ifb_eq (off := 7) 27 (by decide +kernel) (by decide) (fun (h9 : (lr_in y 1 9) = false) => absurd (hl.symm.trans h9) (by decide)) (fun (h20 : (lr_in y 1 9) = true) => ?_)
  refine pm_bl [(.iconst 0, 1, 0, 0, 0), (.goto 4, 3, 28, 0, 0), (.putfield 35, 3, 10, 7, 0), (.aload_n 0, 1, 0, 0, 0), (.getfield 35, 3, 10, 7, 0)] (pc1 := 35) (lo1 := [some (.ref 47), some (.int (nI h)), some (.int y), some (.int 0)]) (st1 := [.int ((pm_set μ 47 7 0).1 47 7)]) (μ1 := pm_set μ 47 7 0) (vc := True) rfl (by decide +kernel) rfl trivial ?_
  rw [show (pm_set μ 47 7 0).1 47 7 = 0 from by rw [pm_set_hit] <;> omega]
  refine pm_if_le (off := 5) 40 (by decide +kernel) (by decide) (fun _ => ?_) (fun h9 => absurd h9 (by decide))
  refine pm_bl [(.aload_n 0, 1, 0, 0, 0), (.getfield 7, 3, 10, 0, 0), (.sipush 289, 3, 0, 0, 289), (.iaload, 1, 0, 0, 0)] (pc1 := 48) (lo1 := [some (.ref 47), some (.int (nI h)), some (.int y), some (.int 0)]) (st1 := [.int ((pm_set μ 47 7 0).1 48 (289 : Int32).toNatClampNeg)]) (μ1 := pm_set μ 47 7 0) (vc := vp_in 289 620 ∧ True) rfl (by decide +kernel) rfl ⟨(by unfold vp_in; decide), trivial⟩ ?_
  try rw [show (289 : Int32).toNatClampNeg = 289 from by decide]
  rw [show (pm_set μ 47 7 0).1 48 289 = μ.1 48 289 from by rw [pm_set_miss] <;> omega]
  rw [hM, lr_gl hG]
  refine pm_bl [(.bipush 30, 2, 0, 0, 30)] (pc1 := 50) (lo1 := [some (.ref 47), some (.int (nI h)), some (.int y), some (.int 0)]) (st1 := [.int 30, .int (nI (lr_n g 289))]) (μ1 := pm_set μ 47 7 0) (vc := True) rfl (by decide +kernel) rfl trivial ?_
  refine pm_icmp_ne (off := 10) 60 (by decide +kernel) (by decide) (fun (h50 : ¬ (nI (lr_n g 289)) = 30) => ?_) (fun (h9 : (nI (lr_n g 289)) = 30) => absurd ((nI_eq (a := lr_n g 289) (b := 30) (by omega) (by omega)).mp h9) (by omega))
  refine pm_bl [(.aload_n 0, 1, 0, 0, 0), (.aload_n 0, 1, 0, 0, 0), (.getfield 7, 3, 10, 0, 0)] (pc1 := 65) (lo1 := [some (.ref 47), some (.int (nI h)), some (.int y), some (.int 0)]) (st1 := [.ref 48, .ref 47]) (μ1 := pm_set μ 47 7 0) (vc := True) rfl (by decide +kernel) rfl trivial ?_
  refine pm_callV2 mi_X10_changes (ix := 66) (b := 47) (ci := 10) (kc2 := 0) (ks2 := 0) (As := [.ref 48]) (rest := []) (c_X10_changes_48 (c := c) (pm_set μ 47 7 0) (by first | exact hp | (rw [pm_set_miss (Or.inr (by decide))]; exact hp)) hc8) cal_X10_changes lk10_66 (by decide +kernel) rfl (by decide +kernel) rfl rfl rfl rfl (Nat.le_of_ble_eq_true rfl) (by decide) (by decide) (fun _ _ h9 => h9.elim) ?_
  rintro _ μ1 ⟨rfl, hq⟩
  have hM1 : μ1.1 48 = g := by rw [hq, lr_chg_off (by decide) (by decide)]; first | exact hM | (rw [pm_set_off (by decide)]; exact hM)
  show pm_V _ _ _ _ 68 _ [] _
  refine pm_bl [(.aload_n 0, 1, 0, 0, 0), (.iload_n 1, 1, 1, 0, 0), (.iload_n 2, 1, 2, 0, 0), (.iload_n 3, 1, 3, 0, 0)] (pc1 := 72) (lo1 := [some (.ref 47), some (.int (nI h)), some (.int y), some (.int 0)]) (st1 := [.int 0, .int y, .int (nI h), .ref 47]) (μ1 := μ1) (vc := True) rfl (by decide +kernel) rfl trivial ?_
  refine pm_if_eq (off := 7) 79 (by decide +kernel) (by decide) (fun _ => ?_) (fun h9 => absurd h9 (by decide))
  refine pm_bl [(.iconst 0, 1, 0, 0, 0)] (pc1 := 80) (lo1 := [some (.ref 47), some (.int (nI h)), some (.int y), some (.int 0)]) (st1 := [.int 0, .int y, .int (nI h), .ref 47]) (μ1 := μ1) (vc := True) rfl (by decide +kernel) rfl trivial ?_
  refine pm_callV2 mi_X10_addsLetter (ix := 130) (b := 47) (ci := 10) (kc2 := 0) (ks2 := 0) (As := [.int (nI h), .int y, .int 0]) (rest := []) (c_X10_addsLetter (nI h) y 0 μ1 hM1 hG hn) cal_X10_addsLetter lk10_130 (by decide +kernel) rfl (by decide +kernel) rfl rfl rfl rfl (Nat.le_of_ble_eq_true rfl) (by decide) (by decide) (fun _ _ h9 => h9.elim) ?_
  rintro _ μ3 ⟨rfl, h8, h7⟩
  have hl3 : μ3.1 48 289 = nI (lr_n g 289 + 1) := by rw [h7]; simp [lr_glet, upd]
  show pm_V _ _ _ _ 83 _ [] _
  refine pm_bl [(.aload_n 0, 1, 0, 0, 0), (.getfield 7, 3, 10, 0, 0), (.sipush 289, 3, 0, 0, 289), (.iaload, 1, 0, 0, 0)] (pc1 := 91) (lo1 := [some (.ref 47), some (.int (nI h)), some (.int y), some (.int 0)]) (st1 := [.int (μ3.1 48 (289 : Int32).toNatClampNeg)]) (μ1 := μ3) (vc := vp_in 289 620 ∧ True) rfl (by decide +kernel) rfl ⟨(by unfold vp_in; decide), trivial⟩ ?_
  refine pm_bl [(.iconst 1, 1, 0, 0, 1), (.isub, 1, 0, 0, 0)] (pc1 := 93) (lo1 := [some (.ref 47), some (.int (nI h)), some (.int y), some (.int 0)]) (st1 := [.int ((μ3.1 48 (289 : Int32).toNatClampNeg) - 1)]) (μ1 := μ3) (vc := True) rfl (by decide +kernel) rfl trivial ?_
  exact pm_iret (ty := .int) rfl rfl (by decide) (by decide) (by decide +kernel) (⟨by rw [show (289 : Int32).toNatClampNeg = 289 from by decide, hl3, nI_pred], by rw [← hq]; exact h8, h7⟩)
set_option maxHeartbeats 4000000 in
set_option maxRecDepth 100000 in
theorem c_X10_addLetter_y1 {g : Nat → Int32} {h c : Nat} {y : Int32} (μ : pm_Mm) (hM : μ.1 48 = g) (hG : lr_G g) (hp : μ.1 47 5 = nI c) (hc8 : c ≤ 8) (hh : h < lr_n g 35) (hl : lr_in y 1 9 = true) (hn : lr_n g 289 < 30) : pm_CT mi_X10_addLetter [.ref 47, .int (nI h), .int y, .int 1] μ (fun v μ2 => v = some (.int (nI (lr_n g 289))) ∧ lr_fm (lr_chg (pm_set μ 47 7 0) 48) μ2 ∧ μ2.1 48 = lr_glet g (nI h) y 1 (g 0)) pm_NX := by
  refine pm_CT_of (lo := [some (.ref 47), some (.int (nI h)), some (.int y), some (.int 1)]) (by decide +kernel) rfl rfl (by intro v hv; simp at hv; rcases hv with rfl | rfl | rfl | rfl <;> rfl) (Nat.le_of_ble_eq_true rfl) rfl ?_
  have hm1 := lr_mh hG; have hm2 := lr_mw hG; have hm3 := lr_mp hG; have hm4 := lr_mr hG; have hm5 := lr_ma hG; have hm6 := lr_ml hG
  refine pm_bl [(.aload_n 0, 1, 0, 0, 0), (.aload_n 0, 1, 0, 0, 0), (.iload_n 1, 1, 1, 0, 0)] (pc1 := 3) (lo1 := [some (.ref 47), some (.int (nI h)), some (.int y), some (.int 1)]) (st1 := [.int (nI h), .ref 47, .ref 47]) (μ1 := μ) (vc := True) rfl (by decide +kernel) rfl trivial ?_
  refine pm_callV2 mi_X10_isPerson (ix := 102) (b := 47) (ci := 10) (kc2 := 0) (ks2 := 0) (As := [.int (nI h)]) (rest := [.ref 47]) (c_X10_isPerson (nI h) μ hM hG) cal_X10_isPerson lk10_102 (by decide +kernel) rfl (by decide +kernel) rfl rfl rfl rfl (Nat.le_of_ble_eq_true rfl) (by decide) (by decide) (fun _ _ h9 => h9.elim) ?_
  rintro _ _ ⟨rfl, h9⟩; rw [h9]; clear h9
  show pm_V _ _ _ _ 6 _ [.int (lr_b (lr_be (nI h) (nI (lr_n g 35)))), .ref 47] _
  refine pm_ifb_ne (off := 7) 13 (by decide +kernel) (by decide) (fun (h6 : (lr_be (nI h) (nI (lr_n g 35))) = true) => ?_) (fun (h9 : (lr_be (nI h) (nI (lr_n g 35))) = false) => absurd (h9.symm.trans (lr_be_1 hh (by omega))) (by decide))
  refine pm_bl [(.iload_n 2, 1, 2, 0, 0), (.iconst 1, 1, 0, 0, 1), (.bipush 9, 2, 0, 0, 9)] (pc1 := 17) (lo1 := [some (.ref 47), some (.int (nI h)), some (.int y), some (.int 1)]) (st1 := [.int 9, .int 1, .int y, .ref 47]) (μ1 := μ) (vc := True) rfl (by decide +kernel) rfl trivial ?_
  refine pm_callS2 mi_X10_in (ix := 45) (kc2 := 0) (ks2 := 0) (As := [.int y, .int 1, .int 9]) (rest := [.ref 47]) (c_X10_in y 1 9 μ) cal_X10_in lk10_45 (by decide +kernel) rfl (by decide +kernel) rfl rfl (Nat.le_of_ble_eq_true rfl) (by decide) (by decide) (fun _ _ h9 => h9.elim) ?_
  rintro _ _ ⟨rfl, h9⟩; rw [h9]; clear h9
  show pm_V _ _ _ _ 20 _ [.int (lr_b (lr_in y 1 9)), .ref 47] _
  refine pm_ifb_eq (off := 7) 27 (by decide +kernel) (by decide) (fun (h9 : (lr_in y 1 9) = false) => absurd (hl.symm.trans h9) (by decide)) (fun (h20 : (lr_in y 1 9) = true) => ?_)
  refine pm_bl [(.iconst 0, 1, 0, 0, 0), (.goto 4, 3, 28, 0, 0), (.putfield 35, 3, 10, 7, 0), (.aload_n 0, 1, 0, 0, 0), (.getfield 35, 3, 10, 7, 0)] (pc1 := 35) (lo1 := [some (.ref 47), some (.int (nI h)), some (.int y), some (.int 1)]) (st1 := [.int ((pm_set μ 47 7 0).1 47 7)]) (μ1 := pm_set μ 47 7 0) (vc := True) rfl (by decide +kernel) rfl trivial ?_
  rw [show (pm_set μ 47 7 0).1 47 7 = 0 from by rw [pm_set_hit] <;> omega]
  refine pm_if_le (off := 5) 40 (by decide +kernel) (by decide) (fun _ => ?_) (fun h9 => absurd h9 (by decide))
  refine pm_bl [(.aload_n 0, 1, 0, 0, 0), (.getfield 7, 3, 10, 0, 0), (.sipush 289, 3, 0, 0, 289), (.iaload, 1, 0, 0, 0)] (pc1 := 48) (lo1 := [some (.ref 47), some (.int (nI h)), some (.int y), some (.int 1)]) (st1 := [.int ((pm_set μ 47 7 0).1 48 (289 : Int32).toNatClampNeg)]) (μ1 := pm_set μ 47 7 0) (vc := vp_in 289 620 ∧ True) rfl (by decide +kernel) rfl ⟨(by unfold vp_in; decide), trivial⟩ ?_
  try rw [show (289 : Int32).toNatClampNeg = 289 from by decide]
  rw [show (pm_set μ 47 7 0).1 48 289 = μ.1 48 289 from by rw [pm_set_miss] <;> omega]
  rw [hM, lr_gl hG]
  refine pm_bl [(.bipush 30, 2, 0, 0, 30)] (pc1 := 50) (lo1 := [some (.ref 47), some (.int (nI h)), some (.int y), some (.int 1)]) (st1 := [.int 30, .int (nI (lr_n g 289))]) (μ1 := pm_set μ 47 7 0) (vc := True) rfl (by decide +kernel) rfl trivial ?_
  refine pm_icmp_ne (off := 10) 60 (by decide +kernel) (by decide) (fun (h50 : ¬ (nI (lr_n g 289)) = 30) => ?_) (fun (h9 : (nI (lr_n g 289)) = 30) => absurd ((nI_eq (a := lr_n g 289) (b := 30) (by omega) (by omega)).mp h9) (by omega))
  refine pm_bl [(.aload_n 0, 1, 0, 0, 0), (.aload_n 0, 1, 0, 0, 0), (.getfield 7, 3, 10, 0, 0)] (pc1 := 65) (lo1 := [some (.ref 47), some (.int (nI h)), some (.int y), some (.int 1)]) (st1 := [.ref 48, .ref 47]) (μ1 := pm_set μ 47 7 0) (vc := True) rfl (by decide +kernel) rfl trivial ?_
  refine pm_callV2 mi_X10_changes (ix := 66) (b := 47) (ci := 10) (kc2 := 0) (ks2 := 0) (As := [.ref 48]) (rest := []) (c_X10_changes_48 (c := c) (pm_set μ 47 7 0) (by first | exact hp | (rw [pm_set_miss (Or.inr (by decide))]; exact hp)) hc8) cal_X10_changes lk10_66 (by decide +kernel) rfl (by decide +kernel) rfl rfl rfl rfl (Nat.le_of_ble_eq_true rfl) (by decide) (by decide) (fun _ _ h9 => h9.elim) ?_
  rintro _ μ1 ⟨rfl, hq⟩
  have hM1 : μ1.1 48 = g := by rw [hq, lr_chg_off (by decide) (by decide)]; first | exact hM | (rw [pm_set_off (by decide)]; exact hM)
  show pm_V _ _ _ _ 68 _ [] _
  refine pm_bl [(.aload_n 0, 1, 0, 0, 0), (.iload_n 1, 1, 1, 0, 0), (.iload_n 2, 1, 2, 0, 0), (.iload_n 3, 1, 3, 0, 0)] (pc1 := 72) (lo1 := [some (.ref 47), some (.int (nI h)), some (.int y), some (.int 1)]) (st1 := [.int 1, .int y, .int (nI h), .ref 47]) (μ1 := μ1) (vc := True) rfl (by decide +kernel) rfl trivial ?_
  refine pm_if_eq (off := 7) 79 (by decide +kernel) (by decide) (fun h9 => absurd h9 (by decide)) (fun _ => ?_)
  refine pm_bl [(.iconst 1, 1, 0, 0, 1), (.goto 4, 3, 80, 0, 0)] (pc1 := 80) (lo1 := [some (.ref 47), some (.int (nI h)), some (.int y), some (.int 1)]) (st1 := [.int 1, .int y, .int (nI h), .ref 47]) (μ1 := μ1) (vc := True) rfl (by decide +kernel) rfl trivial ?_
  refine pm_callV2 mi_X10_addsLetter (ix := 130) (b := 47) (ci := 10) (kc2 := 0) (ks2 := 0) (As := [.int (nI h), .int y, .int 1]) (rest := []) (c_X10_addsLetter (nI h) y 1 μ1 hM1 hG hn) cal_X10_addsLetter lk10_130 (by decide +kernel) rfl (by decide +kernel) rfl rfl rfl rfl (Nat.le_of_ble_eq_true rfl) (by decide) (by decide) (fun _ _ h9 => h9.elim) ?_
  rintro _ μ3 ⟨rfl, h8, h7⟩
  have hl3 : μ3.1 48 289 = nI (lr_n g 289 + 1) := by rw [h7]; simp [lr_glet, upd]
  show pm_V _ _ _ _ 83 _ [] _
  refine pm_bl [(.aload_n 0, 1, 0, 0, 0), (.getfield 7, 3, 10, 0, 0), (.sipush 289, 3, 0, 0, 289), (.iaload, 1, 0, 0, 0)] (pc1 := 91) (lo1 := [some (.ref 47), some (.int (nI h)), some (.int y), some (.int 1)]) (st1 := [.int (μ3.1 48 (289 : Int32).toNatClampNeg)]) (μ1 := μ3) (vc := vp_in 289 620 ∧ True) rfl (by decide +kernel) rfl ⟨(by unfold vp_in; decide), trivial⟩ ?_
  refine pm_bl [(.iconst 1, 1, 0, 0, 1), (.isub, 1, 0, 0, 0)] (pc1 := 93) (lo1 := [some (.ref 47), some (.int (nI h)), some (.int y), some (.int 1)]) (st1 := [.int ((μ3.1 48 (289 : Int32).toNatClampNeg) - 1)]) (μ1 := μ3) (vc := True) rfl (by decide +kernel) rfl trivial ?_
  exact pm_iret (ty := .int) rfl rfl (by decide) (by decide) (by decide +kernel) (⟨by rw [show (289 : Int32).toNatClampNeg = 289 from by decide, hl3, nI_pred], by rw [← hq]; exact h8, h7⟩)
