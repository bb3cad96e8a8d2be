/-! the model: days pass; days left -/
set_option maxHeartbeats 4000000 in
set_option maxRecDepth 100000 in
theorem l_X10_pass {g : Nat → Int32} {K : Nat} {μ0 : pm_Mm} (hI : lr_I g) (hT : lr_n g 0 + K ≤ 365) : ∀ n k : Nat, k + n = K → ∀ (c : Nat) (μ1 : pm_Mm), lr_fm μ0 μ1 → μ1.1 48 = lr_days g k → lr_n g 1 + c = lr_n (lr_days g k) 1 → pm_V mi_X10_pass ((fun v μ2 => v = some (.int (nI (lr_n (lr_days g K) 1 - lr_n g 1))) ∧ lr_fm μ0 μ2 ∧ μ2.1 48 = lr_days g K), pm_NX, fun _ _ _ => True) 0 0 54 [some (.ref 47), some (.int (nI K)), some (.int (nI c)), some (.int (nI k))] [] μ1 := by
  intro n
  induction n with
  | zero =>
    intro k hk c μ1 hf hM hc
    refine pm_bl [(.iload_n 3, 1, 3, 0, 0), (.iload_n 1, 1, 1, 0, 0)] (pc1 := 56) (lo1 := [some (.ref 47), some (.int (nI K)), some (.int (nI c)), some (.int (nI k))]) (st1 := [.int (nI K), .int (nI k)]) (μ1 := μ1) (vc := True) rfl (by decide +kernel) rfl trivial ?_
    refine pm_icmp_ge (off := 16) 72 (by decide +kernel) (by decide) (fun (h56 : (nI K) ≤ (nI k)) => ?_) (fun (h9 : ¬ ((nI K) ≤ (nI k))) => absurd (nI_le (by omega) (by omega)) h9)
    refine pm_bl [(.iload_n 2, 1, 2, 0, 0)] (pc1 := 73) (lo1 := [some (.ref 47), some (.int (nI K)), some (.int (nI c)), some (.int (nI k))]) (st1 := [.int (nI c)]) (μ1 := μ1) (vc := True) rfl (by decide +kernel) rfl trivial ?_
    exact pm_iret (ty := .int) rfl rfl (by decide) (by decide) (by decide +kernel) (by
      obtain rfl : k = K := by omega
      exact ⟨by rw [← hc, Nat.add_sub_cancel_left], hf, hM⟩)
  | succ n ih =>
    intro k hk c μ1 hf hM hc
    have hIk := lr_days_I hI k (by omega)
    refine pm_bl [(.iload_n 3, 1, 3, 0, 0), (.iload_n 1, 1, 1, 0, 0)] (pc1 := 56) (lo1 := [some (.ref 47), some (.int (nI K)), some (.int (nI c)), some (.int (nI k))]) (st1 := [.int (nI K), .int (nI k)]) (μ1 := μ1) (vc := True) rfl (by decide +kernel) rfl trivial ?_
    refine pm_icmp_ge (off := 16) 72 (by decide +kernel) (by decide) (fun (h9 : (nI K) ≤ (nI k)) => absurd h9 (nI_ge (by omega) (by omega))) (fun (h56 : ¬ ((nI K) ≤ (nI k))) => ?_)
    refine pm_bl [(.iload_n 2, 1, 2, 0, 0), (.aload_n 0, 1, 0, 0, 0)] (pc1 := 61) (lo1 := [some (.ref 47), some (.int (nI K)), some (.int (nI c)), some (.int (nI k))]) (st1 := [.ref 47, .int (nI c)]) (μ1 := μ1) (vc := True) rfl (by decide +kernel) rfl trivial ?_
    refine pm_callV2 mi_X10_goesBy (ix := 158) (b := 47) (ci := 10) (kc2 := 0) (ks2 := 0) (As := []) (rest := [.int (nI c)]) (c_X10_goesBy2 μ1 hM hIk.1) cal_X10_goesBy lk10_158 (by decide +kernel) rfl (by decide +kernel) rfl rfl rfl rfl (Nat.le_of_ble_eq_true rfl) (by decide) (by decide) (fun _ _ h9 => h9.elim) ?_
    rintro _ μ3 ⟨rfl, hf3, hr3⟩
    show pm_V _ _ _ _ 64 _ [.int (nI (lr_S (lr_days g k)).length), .int (nI c)] _
    refine pm_bl [(.iadd, 1, 0, 0, 0), (.istore_n 2, 1, 2, 0, 0), (.iinc 3 1, 3, 3, 0, 1), (.goto (-15), 3, 54, 0, 0)] (pc1 := 54) (lo1 := [some (.ref 47), some (.int (nI K)), some (.int ((nI c) + (nI (lr_S (lr_days g k)).length))), some (.int ((nI k) + 1))]) (st1 := []) (μ1 := μ3) (vc := True) rfl (by decide +kernel) rfl trivial ?_
    rw [nI_1, nI_add]; exact ih (k + 1) (by omega) _ μ3 (hf.tr hf3) hr3 (by simp only [lr_days]; rw [lr_day_D hIk.1, ← hc]; omega)
set_option maxHeartbeats 4000000 in
set_option maxRecDepth 100000 in
theorem c_X10_pass_no1 {g : Nat → Int32} {y : Int32} (μ : pm_Mm) (hM : μ.1 48 = g) (hG : lr_G g) (hl : lr_in y 1 60 = false) : pm_CT mi_X10_pass [.ref 47, .int y] μ (fun v μ2 => v = some (.int 0) ∧ μ2 = pm_set μ 47 7 1) pm_NX := by
  refine pm_CT_of (lo := [some (.ref 47), some (.int y), none, none]) (by decide +kernel) rfl rfl (by intro v hv; simp at hv; rcases hv with rfl | rfl <;> rfl) (Nat.le_of_ble_eq_true rfl) rfl ?_
  have hm1 := lr_mh hG; have hm2 := lr_mw hG; have hm3 := lr_mp hG; have hm4 := lr_mr hG; have hm5 := lr_ma hG; have hm6 := lr_ml hG
  refine pm_bl [(.aload_n 0, 1, 0, 0, 0), (.iload_n 1, 1, 1, 0, 0), (.iconst 1, 1, 0, 0, 1), (.bipush 60, 2, 0, 0, 60)] (pc1 := 5) (lo1 := [some (.ref 47), some (.int y), none, none]) (st1 := [.int 60, .int 1, .int y, .ref 47]) (μ1 := μ) (vc := True) rfl (by decide +kernel) rfl trivial ?_
  refine pm_callS2 mi_X10_in (ix := 45) (kc2 := 0) (ks2 := 0) (As := [.int y, .int 1, .int 60]) (rest := [.ref 47]) (c_X10_in y 1 60 μ) cal_X10_in lk10_45 (by decide +kernel) rfl (by decide +kernel) rfl rfl (Nat.le_of_ble_eq_true rfl) (by decide) (by decide) (fun _ _ h9 => h9.elim) ?_
  rintro _ _ ⟨rfl, h9⟩; rw [h9]; clear h9
  show pm_V _ _ _ _ 8 _ [.int (lr_b (lr_in y 1 60)), .ref 47] _
  refine pm_ifb_eq (off := 21) 29 (by decide +kernel) (by decide) (fun (h8 : (lr_in y 1 60) = false) => ?_) (fun (h9 : (lr_in y 1 60) = true) => absurd (hl.symm.trans h9) (by decide))
  refine pm_bl [(.iconst 1, 1, 0, 0, 1), (.putfield 35, 3, 10, 7, 0), (.aload_n 0, 1, 0, 0, 0), (.getfield 35, 3, 10, 7, 0)] (pc1 := 37) (lo1 := [some (.ref 47), some (.int y), none, none]) (st1 := [.int ((pm_set μ 47 7 1).1 47 7)]) (μ1 := pm_set μ 47 7 1) (vc := True) rfl (by decide +kernel) rfl trivial ?_
  rw [show (pm_set μ 47 7 1).1 47 7 = 1 from by rw [pm_set_hit] <;> omega]
  refine pm_if_le (off := 5) 42 (by decide +kernel) (by decide) (fun h9 => absurd h9 (by decide)) (fun _ => ?_)
  refine pm_bl [(.iconst 0, 1, 0, 0, 0)] (pc1 := 41) (lo1 := [some (.ref 47), some (.int y), none, none]) (st1 := [.int 0]) (μ1 := pm_set μ 47 7 1) (vc := True) rfl (by decide +kernel) rfl trivial ?_
  exact pm_iret (ty := .int) rfl rfl (by decide) (by decide) (by decide +kernel) (⟨rfl, rfl⟩)
set_option maxHeartbeats 4000000 in
set_option maxRecDepth 100000 in
theorem c_X10_pass_no1b {g : Nat → Int32} {y : Int32} (μ : pm_Mm) (hM : μ.1 48 = g) (hG : lr_G g) (hl : lr_in y 1 60 = true) (hy : 365 < nI (lr_n g 0) + y) : pm_CT mi_X10_pass [.ref 47, .int y] μ (fun v μ2 => v = some (.int 0) ∧ μ2 = pm_set μ 47 7 1) pm_NX := by
  refine pm_CT_of (lo := [some (.ref 47), some (.int y), none, none]) (by decide +kernel) rfl rfl (by intro v hv; simp at hv; rcases hv with rfl | rfl <;> rfl) (Nat.le_of_ble_eq_true rfl) rfl ?_
  have hm1 := lr_mh hG; have hm2 := lr_mw hG; have hm3 := lr_mp hG; have hm4 := lr_mr hG; have hm5 := lr_ma hG; have hm6 := lr_ml hG
  refine pm_bl [(.aload_n 0, 1, 0, 0, 0), (.iload_n 1, 1, 1, 0, 0), (.iconst 1, 1, 0, 0, 1), (.bipush 60, 2, 0, 0, 60)] (pc1 := 5) (lo1 := [some (.ref 47), some (.int y), none, none]) (st1 := [.int 60, .int 1, .int y, .ref 47]) (μ1 := μ) (vc := True) rfl (by decide +kernel) rfl trivial ?_
  refine pm_callS2 mi_X10_in (ix := 45) (kc2 := 0) (ks2 := 0) (As := [.int y, .int 1, .int 60]) (rest := [.ref 47]) (c_X10_in y 1 60 μ) cal_X10_in lk10_45 (by decide +kernel) rfl (by decide +kernel) rfl rfl (Nat.le_of_ble_eq_true rfl) (by decide) (by decide) (fun _ _ h9 => h9.elim) ?_
  rintro _ _ ⟨rfl, h9⟩; rw [h9]; clear h9
  show pm_V _ _ _ _ 8 _ [.int (lr_b (lr_in y 1 60)), .ref 47] _
  refine pm_ifb_eq (off := 21) 29 (by decide +kernel) (by decide) (fun (h9 : (lr_in y 1 60) = false) => absurd (hl.symm.trans h9) (by decide)) (fun (h8 : (lr_in y 1 60) = true) => ?_)
  refine pm_bl [(.aload_n 0, 1, 0, 0, 0), (.getfield 7, 3, 10, 0, 0), (.iconst 0, 1, 0, 0, 0), (.iaload, 1, 0, 0, 0)] (pc1 := 17) (lo1 := [some (.ref 47), some (.int y), none, none]) (st1 := [.int (μ.1 48 (0 : Int32).toNatClampNeg), .ref 47]) (μ1 := μ) (vc := vp_in 0 620 ∧ True) rfl (by decide +kernel) rfl ⟨(by unfold vp_in; decide), trivial⟩ ?_
  rw [show (0 : Int32).toNatClampNeg = 0 from by decide, hM, lr_gT hG]
  refine pm_bl [(.iload_n 1, 1, 1, 0, 0), (.iadd, 1, 0, 0, 0), (.sipush 365, 3, 0, 0, 365)] (pc1 := 22) (lo1 := [some (.ref 47), some (.int y), none, none]) (st1 := [.int 365, .int ((nI (lr_n g 0)) + y), .ref 47]) (μ1 := μ) (vc := True) rfl (by decide +kernel) rfl trivial ?_
  refine pm_icmp_gt (off := 7) 29 (by decide +kernel) (by decide) (fun (h22 : 365 < ((nI (lr_n g 0)) + y)) => ?_) (fun (h9 : ¬ (365 < ((nI (lr_n g 0)) + y))) => absurd hy h9)
  refine pm_bl [(.iconst 1, 1, 0, 0, 1), (.putfield 35, 3, 10, 7, 0), (.aload_n 0, 1, 0, 0, 0), (.getfield 35, 3, 10, 7, 0)] (pc1 := 37) (lo1 := [some (.ref 47), some (.int y), none, none]) (st1 := [.int ((pm_set μ 47 7 1).1 47 7)]) (μ1 := pm_set μ 47 7 1) (vc := True) rfl (by decide +kernel) rfl trivial ?_
  rw [show (pm_set μ 47 7 1).1 47 7 = 1 from by rw [pm_set_hit] <;> omega]
  refine pm_if_le (off := 5) 42 (by decide +kernel) (by decide) (fun h9 => absurd h9 (by decide)) (fun _ => ?_)
  refine pm_bl [(.iconst 0, 1, 0, 0, 0)] (pc1 := 41) (lo1 := [some (.ref 47), some (.int y), none, none]) (st1 := [.int 0]) (μ1 := pm_set μ 47 7 1) (vc := True) rfl (by decide +kernel) rfl trivial ?_
  exact pm_iret (ty := .int) rfl rfl (by decide) (by decide) (by decide +kernel) (⟨rfl, rfl⟩)
set_option maxHeartbeats 4000000 in
set_option maxRecDepth 100000 in
theorem c_X10_pass {g : Nat → Int32} {K c : Nat} (μ : pm_Mm) (hM : μ.1 48 = g) (hG : lr_G g) (hp : μ.1 47 5 = nI c) (hc8 : c ≤ 8) (hI : lr_I g) (hl : lr_in (nI K) 1 60 = true) (hK : K ≤ 60) (hT : lr_n g 0 + K ≤ 365) : pm_CT mi_X10_pass [.ref 47, .int (nI K)] μ (fun v μ2 => v = some (.int (nI (lr_n (lr_days g K) 1 - lr_n g 1))) ∧ lr_fm (lr_chg (pm_set μ 47 7 0) 48) μ2 ∧ μ2.1 48 = lr_days g K) pm_NX := by
  refine pm_CT_of (lo := [some (.ref 47), some (.int (nI K)), none, none]) (by decide +kernel) rfl rfl (by intro v hv; simp at hv; rcases hv with rfl | rfl <;> rfl) (Nat.le_of_ble_eq_true rfl) rfl ?_
  have hm1 := lr_mh hG; have hm2 := lr_mw hG; have hm3 := lr_mp hG; have hm4 := lr_mr hG; have hm5 := lr_ma hG; have hm6 := lr_ml hG
  refine pm_bl [(.aload_n 0, 1, 0, 0, 0), (.iload_n 1, 1, 1, 0, 0), (.iconst 1, 1, 0, 0, 1), (.bipush 60, 2, 0, 0, 60)] (pc1 := 5) (lo1 := [some (.ref 47), some (.int (nI K)), none, none]) (st1 := [.int 60, .int 1, .int (nI K), .ref 47]) (μ1 := μ) (vc := True) rfl (by decide +kernel) rfl trivial ?_
  refine pm_callS2 mi_X10_in (ix := 45) (kc2 := 0) (ks2 := 0) (As := [.int (nI K), .int 1, .int 60]) (rest := [.ref 47]) (c_X10_in (nI K) 1 60 μ) cal_X10_in lk10_45 (by decide +kernel) rfl (by decide +kernel) rfl rfl (Nat.le_of_ble_eq_true rfl) (by decide) (by decide) (fun _ _ h9 => h9.elim) ?_
  rintro _ _ ⟨rfl, h9⟩; rw [h9]; clear h9
  show pm_V _ _ _ _ 8 _ [.int (lr_b (lr_in (nI K) 1 60)), .ref 47] _
  refine pm_ifb_eq (off := 21) 29 (by decide +kernel) (by decide) (fun (h9 : (lr_in (nI K) 1 60) = false) => absurd (hl.symm.trans h9) (by decide)) (fun (h8 : (lr_in (nI K) 1 60) = true) => ?_)
  refine pm_bl [(.aload_n 0, 1, 0, 0, 0), (.getfield 7, 3, 10, 0, 0), (.iconst 0, 1, 0, 0, 0), (.iaload, 1, 0, 0, 0)] (pc1 := 17) (lo1 := [some (.ref 47), some (.int (nI K)), none, none]) (st1 := [.int (μ.1 48 (0 : Int32).toNatClampNeg), .ref 47]) (μ1 := μ) (vc := vp_in 0 620 ∧ True) rfl (by decide +kernel) rfl ⟨(by unfold vp_in; decide), trivial⟩ ?_
  rw [show (0 : Int32).toNatClampNeg = 0 from by decide, hM, lr_gT hG]
  refine pm_bl [(.iload_n 1, 1, 1, 0, 0), (.iadd, 1, 0, 0, 0), (.sipush 365, 3, 0, 0, 365)] (pc1 := 22) (lo1 := [some (.ref 47), some (.int (nI K)), none, none]) (st1 := [.int 365, .int ((nI (lr_n g 0)) + (nI K)), .ref 47]) (μ1 := μ) (vc := True) rfl (by decide +kernel) rfl trivial ?_
  refine pm_icmp_gt (off := 7) 29 (by decide +kernel) (by decide) (fun (h9 : 365 < ((nI (lr_n g 0)) + (nI K))) => absurd h9 (by rw [nI_add]; exact nI_nlt (a := 365) hT (by decide))) (fun (h22 : ¬ (365 < ((nI (lr_n g 0)) + (nI K)))) => ?_)
  refine pm_bl [(.iconst 0, 1, 0, 0, 0), (.goto 4, 3, 30, 0, 0), (.putfield 35, 3, 10, 7, 0), (.aload_n 0, 1, 0, 0, 0), (.getfield 35, 3, 10, 7, 0)] (pc1 := 37) (lo1 := [some (.ref 47), some (.int (nI K)), none, none]) (st1 := [.int ((pm_set μ 47 7 0).1 47 7)]) (μ1 := pm_set μ 47 7 0) (vc := True) rfl (by decide +kernel) rfl trivial ?_
  rw [show (pm_set μ 47 7 0).1 47 7 = 0 from by rw [pm_set_hit] <;> omega]
  refine pm_if_le (off := 5) 42 (by decide +kernel) (by decide) (fun _ => ?_) (fun h9 => absurd h9 (by decide))
  refine pm_bl [(.aload_n 0, 1, 0, 0, 0), (.aload_n 0, 1, 0, 0, 0), (.getfield 7, 3, 10, 0, 0)] (pc1 := 47) (lo1 := [some (.ref 47), some (.int (nI K)), none, none]) (st1 := [.ref 48, .ref 47]) (μ1 := pm_set μ 47 7 0) (vc := True) rfl (by decide +kernel) rfl trivial ?_
  refine pm_callV2 mi_X10_changes (ix := 66) (b := 47) (ci := 10) (kc2 := 0) (ks2 := 0) (As := [.ref 48]) (rest := []) (c_X10_changes_48 (c := c) (pm_set μ 47 7 0) (by first | exact hp | (rw [pm_set_miss (Or.inr (by decide))]; exact hp)) hc8) cal_X10_changes lk10_66 (by decide +kernel) rfl (by decide +kernel) rfl rfl rfl rfl (Nat.le_of_ble_eq_true rfl) (by decide) (by decide) (fun _ _ h9 => h9.elim) ?_
  rintro _ μ1 ⟨rfl, hq⟩
  have hM1 : μ1.1 48 = g := by rw [hq, lr_chg_off (by decide) (by decide)]; first | exact hM | (rw [pm_set_off (by decide)]; exact hM)
  show pm_V _ _ _ _ 50 _ [] _
  refine pm_bl [(.iconst 0, 1, 0, 0, 0), (.istore_n 2, 1, 2, 0, 0), (.iconst 0, 1, 0, 0, 0), (.istore_n 3, 1, 3, 0, 0)] (pc1 := 54) (lo1 := [some (.ref 47), some (.int (nI K)), some (.int 0), some (.int 0)]) (st1 := []) (μ1 := μ1) (vc := True) rfl (by decide +kernel) rfl trivial ?_
  rw [← hq]; exact l_X10_pass hI hT K 0 (Nat.zero_add _) 0 _ lr_fm.rf hM1 rfl
/-- how many days letter l still waits, of n to come; -1: longer -/
def lr_lft (g : Nat → Int32) (l : Nat) : Nat → Nat → Int32
  | 0, k => if lr_days g k (294 + 11 * l) = 0 then -1 else nI k
  | n + 1, k => if lr_days g k (294 + 11 * l) = 0 then lr_lft g l n (k + 1) else nI k
theorem lr_day_hi {g : Nat → Int32} (hG : lr_G g) {x : Nat} (hx : 620 ≤ x) : lr_day g x = g x := by
  have m6 := lr_ml hG
  rw [lr_day_o (by omega) (by omega) (fun s hs => by have := (lr_S_mem.mp hs).1; omega)]
  exact lr_pab_o (by omega)
theorem lr_days_hi {g : Nat → Int32} (hI : lr_I g) {x : Nat} (hx : 620 ≤ x) : ∀ k, lr_n g 0 + k ≤ 365 → lr_days g k x = g x := by
  intro k
  induction k with
  | zero => intro _; rfl
  | succ k ih =>
    intro h
    simp only [lr_days]
    rw [lr_day_hi (lr_days_I hI k (by omega)).1.1 hx, ih (by omega)]
theorem lr_days_n {g : Nat → Int32} {x : Nat} (h1 : 2 ≤ x) (hx : x < 290) : ∀ k, lr_n (lr_days g k) x = lr_n g x := by
  intro k
  induction k with
  | zero => rfl
  | succ k ih => simp only [lr_days]; rw [lr_day_n h1 hx, ih]
theorem lr_fsp.tr {μ a b : pm_Mm} (h : lr_fsp μ a) (h2 : lr_fm a b) : lr_fsp μ b := ⟨fun i h8 h5 => by rw [h2.1 i h8]; exact h.1 i h8 h5, h2.2.trans h.2.1, fun x hx => by rw [h2.1 50 (by decide)]; exact h.2.2 x hx⟩
set_option maxHeartbeats 4000000 in
set_option maxRecDepth 100000 in
theorem t_X10_daysLeft_w {g : Nat → Int32} {l k : Nat} (P : Option Value → pm_Mm → Prop) (x : Int32) (μ : pm_Mm) (hM : μ.1 48 = g) (hl : l < 30) (hw : g (294 + 11 * l) = 0) (K : P (some (.int (0))) (pm_set (pm_row μ 48 (lr_cpy (μ.1 50) (μ.1 48) 0 0 620)) 47 7 3)) : pm_V mi_X10_daysLeft (P, pm_NX, fun _ _ _ => True) 0 0 98 [some (.ref 47), some (.int (nI l)), some (.int (nI k)), some (.int x), none] [] μ := by
  refine pm_bl [(.aload_n 0, 1, 0, 0, 0), (.getfield 7, 3, 10, 0, 0), (.iload_n 1, 1, 1, 0, 0), (.iconst 4, 1, 0, 0, 4)] (pc1 := 104) (lo1 := [some (.ref 47), some (.int (nI l)), some (.int (nI k)), some (.int x), none]) (st1 := [.int 4, .int (nI l), .ref 48]) (μ1 := μ) (vc := True) rfl (by decide +kernel) rfl trivial ?_
  refine pm_callS2 mi_X10_at (ix := 127) (kc2 := 0) (ks2 := 0) (As := [.int (nI l), .int 4]) (rest := [.ref 48]) (c_X10_at (k := l) (c := 4) (n := 294 + 11 * l) μ (by omega)) cal_X10_at lk10_127 (by decide +kernel) rfl (by decide +kernel) rfl rfl (Nat.le_of_ble_eq_true rfl) (by decide) (by decide) (fun _ _ h9 => h9.elim) ?_
  rintro _ _ ⟨rfl, h9⟩; rw [h9]; clear h9
  show pm_V _ _ _ _ 107 _ [.int (nI (294 + 11 * l)), .ref 48] _
  refine pm_bl [(.iaload, 1, 0, 0, 0)] (pc1 := 108) (lo1 := [some (.ref 47), some (.int (nI l)), some (.int (nI k)), some (.int x), none]) (st1 := [.int (μ.1 48 (nI (294 + 11 * l)).toNatClampNeg)]) (μ1 := μ) (vc := vp_in (nI (294 + 11 * l)) 620 ∧ True) rfl (by decide +kernel) rfl ⟨(vp_in_nI (by omega) (by omega)), trivial⟩ ?_
  rw [nI_clamp (n := 294 + 11 * l) (by omega), hM]
  refine pm_if_eq (off := 7) 115 (by decide +kernel) (by decide) (fun (h108 : (g (294 + 11 * l)) = 0) => ?_) (fun (h9 : ¬ ((g (294 + 11 * l)) = 0)) => absurd hw h9)
  refine pm_bl [(.iconst 0, 1, 0, 0, 0), (.istore 4, 2, 4, 0, 0), (.aload_n 0, 1, 0, 0, 0), (.getfield 16, 3, 10, 2, 0), (.iconst 0, 1, 0, 0, 0), (.aload_n 0, 1, 0, 0, 0), (.getfield 7, 3, 10, 0, 0), (.iconst 0, 1, 0, 0, 0)] (pc1 := 128) (lo1 := [some (.ref 47), some (.int (nI l)), some (.int (nI k)), some (.int x), some (.int 0)]) (st1 := [.int 0, .ref 48, .int 0, .ref 50]) (μ1 := μ) (vc := True) rfl (by decide +kernel) rfl trivial ?_
  refine pm_callS2 mi_X10_copies (ix := 52) (kc2 := 0) (ks2 := 0) (As := [.ref 50, .int 0, .ref 48, .int 0]) (rest := []) (c_X10_cp_50_48 (i := 0) (j := 0) μ rfl rfl (by omega) (by omega)) cal_X10_copies lk10_52 (by decide +kernel) rfl (by decide +kernel) rfl rfl (Nat.le_of_ble_eq_true rfl) (by decide) (by decide) (fun _ _ h9 => h9.elim) ?_
  rintro _ _ ⟨rfl, h9⟩; rw [h9]; clear h9
  show pm_V _ _ _ _ 131 _ [] _
  refine pm_bl [(.iload 4, 2, 4, 0, 0)] (pc1 := 133) (lo1 := [some (.ref 47), some (.int (nI l)), some (.int (nI k)), some (.int x), some (.int 0)]) (st1 := [.int 0]) (μ1 := pm_row μ 48 (lr_cpy (μ.1 50) (μ.1 48) 0 0 620)) (vc := True) rfl (by decide +kernel) rfl trivial ?_
  refine pm_if_eq (off := 7) 140 (by decide +kernel) (by decide) (fun _ => ?_) (fun h9 => absurd h9 (by decide))
  refine pm_bl [(.aload_n 0, 1, 0, 0, 0), (.iconst 3, 1, 0, 0, 3)] (pc1 := 142) (lo1 := [some (.ref 47), some (.int (nI l)), some (.int (nI k)), some (.int x), some (.int 0)]) (st1 := [.int 3, .ref 47]) (μ1 := pm_row μ 48 (lr_cpy (μ.1 50) (μ.1 48) 0 0 620)) (vc := True) rfl (by decide +kernel) rfl trivial ?_
  refine pm_callV2 mi_X10_fails (ix := 41) (b := 47) (ci := 10) (kc2 := 0) (ks2 := 0) (As := [.int 3]) (rest := []) (c_X10_fails 3 (pm_row μ 48 (lr_cpy (μ.1 50) (μ.1 48) 0 0 620))) cal_X10_fails lk10_41 (by decide +kernel) rfl (by decide +kernel) rfl rfl rfl rfl (Nat.le_of_ble_eq_true rfl) (by decide) (by decide) (fun _ _ h9 => h9.elim) ?_
  rintro _ _ ⟨rfl, h9⟩; rw [h9]; clear h9
  show pm_V _ _ _ _ 145 _ [.int 0] _
  exact pm_iret (ty := .int) rfl rfl (by decide) (by decide) (by decide +kernel) K
set_option maxHeartbeats 4000000 in
set_option maxRecDepth 100000 in
theorem t_X10_daysLeft_d {g : Nat → Int32} {l k : Nat} (P : Option Value → pm_Mm → Prop) (x : Int32) (μ : pm_Mm) (hM : μ.1 48 = g) (hl : l < 30) (hw : ¬ g (294 + 11 * l) = 0) (K : P (some (.int (nI k))) (pm_row μ 48 (lr_cpy (μ.1 50) (μ.1 48) 0 0 620))) : pm_V mi_X10_daysLeft (P, pm_NX, fun _ _ _ => True) 0 0 98 [some (.ref 47), some (.int (nI l)), some (.int (nI k)), some (.int x), none] [] μ := by
  refine pm_bl [(.aload_n 0, 1, 0, 0, 0), (.getfield 7, 3, 10, 0, 0), (.iload_n 1, 1, 1, 0, 0), (.iconst 4, 1, 0, 0, 4)] (pc1 := 104) (lo1 := [some (.ref 47), some (.int (nI l)), some (.int (nI k)), some (.int x), none]) (st1 := [.int 4, .int (nI l), .ref 48]) (μ1 := μ) (vc := True) rfl (by decide +kernel) rfl trivial ?_
  refine pm_callS2 mi_X10_at (ix := 127) (kc2 := 0) (ks2 := 0) (As := [.int (nI l), .int 4]) (rest := [.ref 48]) (c_X10_at (k := l) (c := 4) (n := 294 + 11 * l) μ (by omega)) cal_X10_at lk10_127 (by decide +kernel) rfl (by decide +kernel) rfl rfl (Nat.le_of_ble_eq_true rfl) (by decide) (by decide) (fun _ _ h9 => h9.elim) ?_
  rintro _ _ ⟨rfl, h9⟩; rw [h9]; clear h9
  show pm_V _ _ _ _ 107 _ [.int (nI (294 + 11 * l)), .ref 48] _
  refine pm_bl [(.iaload, 1, 0, 0, 0)] (pc1 := 108) (lo1 := [some (.ref 47), some (.int (nI l)), some (.int (nI k)), some (.int x), none]) (st1 := [.int (μ.1 48 (nI (294 + 11 * l)).toNatClampNeg)]) (μ1 := μ) (vc := vp_in (nI (294 + 11 * l)) 620 ∧ True) rfl (by decide +kernel) rfl ⟨(vp_in_nI (by omega) (by omega)), trivial⟩ ?_
  rw [nI_clamp (n := 294 + 11 * l) (by omega), hM]
  refine pm_if_eq (off := 7) 115 (by decide +kernel) (by decide) (fun (h9 : (g (294 + 11 * l)) = 0) => absurd h9 hw) (fun (h108 : ¬ ((g (294 + 11 * l)) = 0)) => ?_)
  refine pm_bl [(.iconst 1, 1, 0, 0, 1), (.goto 4, 3, 116, 0, 0), (.istore 4, 2, 4, 0, 0), (.aload_n 0, 1, 0, 0, 0), (.getfield 16, 3, 10, 2, 0), (.iconst 0, 1, 0, 0, 0), (.aload_n 0, 1, 0, 0, 0), (.getfield 7, 3, 10, 0, 0), (.iconst 0, 1, 0, 0, 0)] (pc1 := 128) (lo1 := [some (.ref 47), some (.int (nI l)), some (.int (nI k)), some (.int x), some (.int 1)]) (st1 := [.int 0, .ref 48, .int 0, .ref 50]) (μ1 := μ) (vc := True) rfl (by decide +kernel) rfl trivial ?_
  refine pm_callS2 mi_X10_copies (ix := 52) (kc2 := 0) (ks2 := 0) (As := [.ref 50, .int 0, .ref 48, .int 0]) (rest := []) (c_X10_cp_50_48 (i := 0) (j := 0) μ rfl rfl (by omega) (by omega)) cal_X10_copies lk10_52 (by decide +kernel) rfl (by decide +kernel) rfl rfl (Nat.le_of_ble_eq_true rfl) (by decide) (by decide) (fun _ _ h9 => h9.elim) ?_
  rintro _ _ ⟨rfl, h9⟩; rw [h9]; clear h9
  show pm_V _ _ _ _ 131 _ [] _
  refine pm_bl [(.iload 4, 2, 4, 0, 0)] (pc1 := 133) (lo1 := [some (.ref 47), some (.int (nI l)), some (.int (nI k)), some (.int x), some (.int 1)]) (st1 := [.int 1]) (μ1 := pm_row μ 48 (lr_cpy (μ.1 50) (μ.1 48) 0 0 620)) (vc := True) rfl (by decide +kernel) rfl trivial ?_
  refine pm_if_eq (off := 7) 140 (by decide +kernel) (by decide) (fun h9 => absurd h9 (by decide)) (fun _ => ?_)
  refine pm_bl [(.iload_n 2, 1, 2, 0, 0), (.goto 8, 3, 145, 0, 0)] (pc1 := 145) (lo1 := [some (.ref 47), some (.int (nI l)), some (.int (nI k)), some (.int x), some (.int 1)]) (st1 := [.int (nI k)]) (μ1 := pm_row μ 48 (lr_cpy (μ.1 50) (μ.1 48) 0 0 620)) (vc := True) rfl (by decide +kernel) rfl trivial ?_
  exact pm_iret (ty := .int) rfl rfl (by decide) (by decide) (by decide +kernel) K
set_option maxHeartbeats 4000000 in
set_option maxRecDepth 100000 in
theorem l_X10_daysLeft {g : Nat → Int32} {l : Nat} {μ0 : pm_Mm} {r : Int32} (h0 : μ0.1 48 = g) (hI : lr_I g) (hl : l < lr_n g 289) : ∀ n k : Nat, lr_n g 0 + k + n = 365 → r = lr_lft g l n k → ∀ (x : Int32) (μ1 : pm_Mm), lr_fsp μ0 μ1 → μ1.1 48 = lr_days g k → pm_V mi_X10_daysLeft ((fun v μ2 => v = some (.int (if r = -1 then 0 else r)) ∧ lr_fs (if r = -1 then pm_set μ0 47 7 3 else μ0) μ2), pm_NX, fun _ _ _ => True) 0 0 60 [some (.ref 47), some (.int (nI l)), some (.int (nI k)), some (.int x), none] [] μ1 := by
  have m6 := lr_ml hI.1
  have bk : ∀ k, lr_n g 0 + k ≤ 365 → ∀ μ1, lr_fsp μ0 μ1 → μ1.1 48 = lr_days g k → lr_fs μ0 (pm_row μ1 48 (lr_cpy (μ1.1 50) (μ1.1 48) 0 0 620)) := fun k hk μ1 hf hM => hf.bk (fun x hx => by rw [hM, h0]; exact lr_days_hi hI hx k hk)
  intro n
  induction n with
  | zero =>
    intro k hk he x μ1 hf hM
    have hIk := lr_days_I hI k (by omega)
    obtain ⟨h, hh⟩ : ∃ h, h = lr_days g k := ⟨_, rfl⟩
    rw [← hh] at hM hIk
    have hG := hIk.1.1
    simp only [lr_lft] at he
    rw [← hh] at he
    refine pm_bl [(.aload_n 0, 1, 0, 0, 0), (.getfield 7, 3, 10, 0, 0), (.iload_n 1, 1, 1, 0, 0), (.iconst 4, 1, 0, 0, 4)] (pc1 := 66) (lo1 := [some (.ref 47), some (.int (nI l)), some (.int (nI k)), some (.int x), none]) (st1 := [.int 4, .int (nI l), .ref 48]) (μ1 := μ1) (vc := True) rfl (by decide +kernel) rfl trivial ?_
    refine pm_callS2 mi_X10_at (ix := 127) (kc2 := 0) (ks2 := 0) (As := [.int (nI l), .int 4]) (rest := [.ref 48]) (c_X10_at (k := l) (c := 4) (n := 294 + 11 * l) μ1 (by omega)) cal_X10_at lk10_127 (by decide +kernel) rfl (by decide +kernel) rfl rfl (Nat.le_of_ble_eq_true rfl) (by decide) (by decide) (fun _ _ h9 => h9.elim) ?_
    rintro _ _ ⟨rfl, h9⟩; rw [h9]; clear h9
    show pm_V _ _ _ _ 69 _ [.int (nI (294 + 11 * l)), .ref 48] _
    refine pm_bl [(.iaload, 1, 0, 0, 0)] (pc1 := 70) (lo1 := [some (.ref 47), some (.int (nI l)), some (.int (nI k)), some (.int x), none]) (st1 := [.int (μ1.1 48 (nI (294 + 11 * l)).toNatClampNeg)]) (μ1 := μ1) (vc := vp_in (nI (294 + 11 * l)) 620 ∧ True) rfl (by decide +kernel) rfl ⟨(vp_in_nI (by omega) (by omega)), trivial⟩ ?_
    rw [nI_clamp (n := 294 + 11 * l) (by omega), hM]
    refine pm_if_ne (off := 28) 98 (by decide +kernel) (by decide) (fun (h70 : ¬ (h (294 + 11 * l)) = 0) => ?_) (fun (h70 : (h (294 + 11 * l)) = 0) => ?_)
    · refine t_X10_daysLeft_d _ _ _ hM (by omega) h70 ⟨?_, ?_⟩
      · rw [he, if_neg h70, if_neg (lr_ne1 (by omega))]
      · rw [he, if_neg h70, if_neg (lr_ne1 (by omega))]; exact bk k (by omega) μ1 hf (hM.trans hh)
    · refine pm_bl [(.aload_n 0, 1, 0, 0, 0), (.getfield 7, 3, 10, 0, 0), (.iconst 0, 1, 0, 0, 0), (.iaload, 1, 0, 0, 0)] (pc1 := 79) (lo1 := [some (.ref 47), some (.int (nI l)), some (.int (nI k)), some (.int x), none]) (st1 := [.int (μ1.1 48 (0 : Int32).toNatClampNeg)]) (μ1 := μ1) (vc := vp_in 0 620 ∧ True) rfl (by decide +kernel) rfl ⟨(by unfold vp_in; decide), trivial⟩ ?_
      rw [show (0 : Int32).toNatClampNeg = 0 from by decide, hM, lr_gT hG]
      refine pm_bl [(.sipush 365, 3, 0, 0, 365)] (pc1 := 82) (lo1 := [some (.ref 47), some (.int (nI l)), some (.int (nI k)), some (.int x), none]) (st1 := [.int 365, .int (nI (lr_n h 0))]) (μ1 := μ1) (vc := True) rfl (by decide +kernel) rfl trivial ?_
      refine pm_icmp_ge (off := 16) 98 (by decide +kernel) (by decide) (fun (h82 : 365 ≤ (nI (lr_n h 0))) => ?_) (fun (h9 : ¬ (365 ≤ (nI (lr_n h 0)))) => absurd (nI_le (a := 365) (by omega) (by omega)) h9)
      refine t_X10_daysLeft_w _ _ _ hM (by omega) h70 ⟨?_, ?_⟩
      · rw [he, if_pos h70]; rfl
      · rw [he, if_pos h70, if_pos rfl]; exact (bk k (by omega) μ1 hf (hM.trans hh)).set (by decide)
  | succ n ih =>
    intro k hk he x μ1 hf hM
    have hIk := lr_days_I hI k (by omega)
    obtain ⟨h, hh⟩ : ∃ h, h = lr_days g k := ⟨_, rfl⟩
    rw [← hh] at hM hIk
    have hG := hIk.1.1
    simp only [lr_lft] at he
    rw [← hh] at he
    refine pm_bl [(.aload_n 0, 1, 0, 0, 0), (.getfield 7, 3, 10, 0, 0), (.iload_n 1, 1, 1, 0, 0), (.iconst 4, 1, 0, 0, 4)] (pc1 := 66) (lo1 := [some (.ref 47), some (.int (nI l)), some (.int (nI k)), some (.int x), none]) (st1 := [.int 4, .int (nI l), .ref 48]) (μ1 := μ1) (vc := True) rfl (by decide +kernel) rfl trivial ?_
    refine pm_callS2 mi_X10_at (ix := 127) (kc2 := 0) (ks2 := 0) (As := [.int (nI l), .int 4]) (rest := [.ref 48]) (c_X10_at (k := l) (c := 4) (n := 294 + 11 * l) μ1 (by omega)) cal_X10_at lk10_127 (by decide +kernel) rfl (by decide +kernel) rfl rfl (Nat.le_of_ble_eq_true rfl) (by decide) (by decide) (fun _ _ h9 => h9.elim) ?_
    rintro _ _ ⟨rfl, h9⟩; rw [h9]; clear h9
    show pm_V _ _ _ _ 69 _ [.int (nI (294 + 11 * l)), .ref 48] _
    refine pm_bl [(.iaload, 1, 0, 0, 0)] (pc1 := 70) (lo1 := [some (.ref 47), some (.int (nI l)), some (.int (nI k)), some (.int x), none]) (st1 := [.int (μ1.1 48 (nI (294 + 11 * l)).toNatClampNeg)]) (μ1 := μ1) (vc := vp_in (nI (294 + 11 * l)) 620 ∧ True) rfl (by decide +kernel) rfl ⟨(vp_in_nI (by omega) (by omega)), trivial⟩ ?_
    rw [nI_clamp (n := 294 + 11 * l) (by omega), hM]
    refine pm_if_ne (off := 28) 98 (by decide +kernel) (by decide) (fun (h70 : ¬ (h (294 + 11 * l)) = 0) => ?_) (fun (h70 : (h (294 + 11 * l)) = 0) => ?_)
    · refine t_X10_daysLeft_d _ _ _ hM (by omega) h70 ⟨?_, ?_⟩
      · rw [he, if_neg h70, if_neg (lr_ne1 (by omega))]
      · rw [he, if_neg h70, if_neg (lr_ne1 (by omega))]; exact bk k (by omega) μ1 hf (hM.trans hh)
    · refine pm_bl [(.aload_n 0, 1, 0, 0, 0), (.getfield 7, 3, 10, 0, 0), (.iconst 0, 1, 0, 0, 0), (.iaload, 1, 0, 0, 0)] (pc1 := 79) (lo1 := [some (.ref 47), some (.int (nI l)), some (.int (nI k)), some (.int x), none]) (st1 := [.int (μ1.1 48 (0 : Int32).toNatClampNeg)]) (μ1 := μ1) (vc := vp_in 0 620 ∧ True) rfl (by decide +kernel) rfl ⟨(by unfold vp_in; decide), trivial⟩ ?_
      rw [show (0 : Int32).toNatClampNeg = 0 from by decide, hM, lr_gT hG]
      refine pm_bl [(.sipush 365, 3, 0, 0, 365)] (pc1 := 82) (lo1 := [some (.ref 47), some (.int (nI l)), some (.int (nI k)), some (.int x), none]) (st1 := [.int 365, .int (nI (lr_n h 0))]) (μ1 := μ1) (vc := True) rfl (by decide +kernel) rfl trivial ?_
      refine pm_icmp_ge (off := 16) 98 (by decide +kernel) (by decide) (fun (h9 : 365 ≤ (nI (lr_n h 0))) => absurd h9 (nI_ge (b := 365) (by omega) (by omega))) (fun (h82 : ¬ (365 ≤ (nI (lr_n h 0)))) => ?_)
      refine pm_bl [(.iload_n 3, 1, 3, 0, 0), (.aload_n 0, 1, 0, 0, 0)] (pc1 := 87) (lo1 := [some (.ref 47), some (.int (nI l)), some (.int (nI k)), some (.int x), none]) (st1 := [.ref 47, .int x]) (μ1 := μ1) (vc := True) rfl (by decide +kernel) rfl trivial ?_
      refine pm_callV2 mi_X10_goesBy (ix := 158) (b := 47) (ci := 10) (kc2 := 0) (ks2 := 0) (As := []) (rest := [.int x]) (c_X10_goesBy2 μ1 hM hIk.1) cal_X10_goesBy lk10_158 (by decide +kernel) rfl (by decide +kernel) rfl rfl rfl rfl (Nat.le_of_ble_eq_true rfl) (by decide) (by decide) (fun _ _ h9 => h9.elim) ?_
      rintro _ μ3 ⟨rfl, hf3, hr3⟩
      show pm_V _ _ _ _ 90 _ [.int (nI (lr_S h).length), .int x] _
      refine pm_bl [(.iadd, 1, 0, 0, 0), (.istore_n 3, 1, 3, 0, 0), (.iinc 2 1, 3, 2, 0, 1), (.goto (-35), 3, 60, 0, 0)] (pc1 := 60) (lo1 := [some (.ref 47), some (.int (nI l)), some (.int ((nI k) + 1)), some (.int (x + (nI (lr_S h).length))), none]) (st1 := []) (μ1 := μ3) (vc := True) rfl (by decide +kernel) rfl trivial ?_
      rw [nI_1]; exact ih (k + 1) (by omega) (by rw [he, if_pos h70]) _ μ3 (hf.tr hf3) (by rw [hr3, hh]; rfl)
set_option maxHeartbeats 4000000 in
set_option maxRecDepth 100000 in
theorem c_X10_daysLeft_no1 {g : Nat → Int32} {x : Int32} (μ : pm_Mm) (hM : μ.1 48 = g) (hG : lr_G g) (hb : lr_be x (nI (lr_n g 289)) = false) : pm_CT mi_X10_daysLeft [.ref 47, .int x] μ (fun v μ2 => v = some (.int 0) ∧ μ2 = pm_set μ 47 7 1) pm_NX := by
  refine pm_CT_of (lo := [some (.ref 47), some (.int x), none, none, none]) (by decide +kernel) rfl rfl (by intro v hv; simp at hv; rcases hv with rfl | rfl <;> rfl) (Nat.le_of_ble_eq_true rfl) rfl ?_
  have hm1 := lr_mh hG; have hm2 := lr_mw hG; have hm3 := lr_mp hG; have hm4 := lr_mr hG; have hm5 := lr_ma hG; have hm6 := lr_ml hG
  refine pm_bl [(.aload_n 0, 1, 0, 0, 0), (.aload_n 0, 1, 0, 0, 0), (.iload_n 1, 1, 1, 0, 0)] (pc1 := 3) (lo1 := [some (.ref 47), some (.int x), none, none, none]) (st1 := [.int x, .ref 47, .ref 47]) (μ1 := μ) (vc := True) rfl (by decide +kernel) rfl trivial ?_
  refine pm_callV2 mi_X10_isLetter (ix := 134) (b := 47) (ci := 10) (kc2 := 0) (ks2 := 0) (As := [.int x]) (rest := [.ref 47]) (c_X10_isLetter x μ hM hG) cal_X10_isLetter lk10_134 (by decide +kernel) rfl (by decide +kernel) rfl rfl rfl rfl (Nat.le_of_ble_eq_true rfl) (by decide) (by decide) (fun _ _ h9 => h9.elim) ?_
  rintro _ _ ⟨rfl, h9⟩; rw [h9]; clear h9
  show pm_V _ _ _ _ 6 _ [.int (lr_b (lr_be x (nI (lr_n g 289)))), .ref 47] _
  refine pm_ifb_ne (off := 7) 13 (by decide +kernel) (by decide) (fun (h9 : (lr_be x (nI (lr_n g 289))) = true) => absurd (hb.symm.trans h9) (by decide)) (fun (h6 : (lr_be x (nI (lr_n g 289))) = false) => ?_)
  refine pm_bl [(.iconst 1, 1, 0, 0, 1), (.goto 21, 3, 31, 0, 0), (.putfield 35, 3, 10, 7, 0), (.aload_n 0, 1, 0, 0, 0), (.getfield 35, 3, 10, 7, 0)] (pc1 := 38) (lo1 := [some (.ref 47), some (.int x), none, none, none]) (st1 := [.int ((pm_set μ 47 7 1).1 47 7)]) (μ1 := pm_set μ 47 7 1) (vc := True) rfl (by decide +kernel) rfl trivial ?_
  rw [show (pm_set μ 47 7 1).1 47 7 = 1 from by rw [pm_set_hit] <;> omega]
  refine pm_if_le (off := 5) 43 (by decide +kernel) (by decide) (fun h9 => absurd h9 (by decide)) (fun _ => ?_)
  refine pm_bl [(.iconst 0, 1, 0, 0, 0)] (pc1 := 42) (lo1 := [some (.ref 47), some (.int x), none, none, none]) (st1 := [.int 0]) (μ1 := pm_set μ 47 7 1) (vc := True) rfl (by decide +kernel) rfl trivial ?_
  exact pm_iret (ty := .int) rfl rfl (by decide) (by decide) (by decide +kernel) (⟨rfl, rfl⟩)
set_option maxHeartbeats 4000000 in
set_option maxRecDepth 100000 in
theorem c_X10_daysLeft_no2 {g : Nat → Int32} {l : Nat} (μ : pm_Mm) (hM : μ.1 48 = g) (hG : lr_G g) (hl : l < lr_n g 289) (hw : ¬ g (294 + 11 * l) = 0) : pm_CT mi_X10_daysLeft [.ref 47, .int (nI l)] μ (fun v μ2 => v = some (.int 0) ∧ μ2 = pm_set μ 47 7 2) pm_NX := by
  refine pm_CT_of (lo := [some (.ref 47), some (.int (nI l)), none, none, none]) (by decide +kernel) rfl rfl (by intro v hv; simp at hv; rcases hv with rfl | rfl <;> rfl) (Nat.le_of_ble_eq_true rfl) rfl ?_
  have hm1 := lr_mh hG; have hm2 := lr_mw hG; have hm3 := lr_mp hG; have hm4 := lr_mr hG; have hm5 := lr_ma hG; have hm6 := lr_ml hG
  refine pm_bl [(.aload_n 0, 1, 0, 0, 0), (.aload_n 0, 1, 0, 0, 0), (.iload_n 1, 1, 1, 0, 0)] (pc1 := 3) (lo1 := [some (.ref 47), some (.int (nI l)), none, none, none]) (st1 := [.int (nI l), .ref 47, .ref 47]) (μ1 := μ) (vc := True) rfl (by decide +kernel) rfl trivial ?_
  refine pm_callV2 mi_X10_isLetter (ix := 134) (b := 47) (ci := 10) (kc2 := 0) (ks2 := 0) (As := [.int (nI l)]) (rest := [.ref 47]) (c_X10_isLetter (nI l) μ hM hG) cal_X10_isLetter lk10_134 (by decide +kernel) rfl (by decide +kernel) rfl rfl rfl rfl (Nat.le_of_ble_eq_true rfl) (by decide) (by decide) (fun _ _ h9 => h9.elim) ?_
  rintro _ _ ⟨rfl, h9⟩; rw [h9]; clear h9
  show pm_V _ _ _ _ 6 _ [.int (lr_b (lr_be (nI l) (nI (lr_n g 289)))), .ref 47] _
  refine pm_ifb_ne (off := 7) 13 (by decide +kernel) (by decide) (fun (h6 : (lr_be (nI l) (nI (lr_n g 289))) = true) => ?_) (fun (h9 : (lr_be (nI l) (nI (lr_n g 289))) = false) => absurd (h9.symm.trans (lr_be_1 hl (by omega))) (by decide))
  refine pm_bl [(.aload_n 0, 1, 0, 0, 0), (.getfield 7, 3, 10, 0, 0), (.iload_n 1, 1, 1, 0, 0), (.iconst 4, 1, 0, 0, 4)] (pc1 := 19) (lo1 := [some (.ref 47), some (.int (nI l)), none, none, none]) (st1 := [.int 4, .int (nI l), .ref 48, .ref 47]) (μ1 := μ) (vc := True) rfl (by decide +kernel) rfl trivial ?_
  refine pm_callS2 mi_X10_at (ix := 127) (kc2 := 0) (ks2 := 0) (As := [.int (nI l), .int 4]) (rest := [.ref 48, .ref 47]) (c_X10_at (k := l) (c := 4) (n := 294 + 11 * l) μ (by omega)) cal_X10_at lk10_127 (by decide +kernel) rfl (by decide +kernel) rfl rfl (Nat.le_of_ble_eq_true rfl) (by decide) (by decide) (fun _ _ h9 => h9.elim) ?_
  rintro _ _ ⟨rfl, h9⟩; rw [h9]; clear h9
  show pm_V _ _ _ _ 22 _ [.int (nI (294 + 11 * l)), .ref 48, .ref 47] _
  refine pm_bl [(.iaload, 1, 0, 0, 0)] (pc1 := 23) (lo1 := [some (.ref 47), some (.int (nI l)), none, none, none]) (st1 := [.int (μ.1 48 (nI (294 + 11 * l)).toNatClampNeg), .ref 47]) (μ1 := μ) (vc := vp_in (nI (294 + 11 * l)) 620 ∧ True) rfl (by decide +kernel) rfl ⟨(vp_in_nI (by omega) (by omega)), trivial⟩ ?_
  first | rw [nI_clamp (n := 294 + 11 * l) (by omega), hM] | rw [hM]
  refine pm_if_eq (off := 7) 30 (by decide +kernel) (by decide) (fun (h9 : (g (294 + 11 * l)) = 0) => absurd h9 hw) (fun (h23 : ¬ ((g (294 + 11 * l)) = 0)) => ?_)
  refine pm_bl [(.iconst 2, 1, 0, 0, 2), (.goto 4, 3, 31, 0, 0), (.putfield 35, 3, 10, 7, 0), (.aload_n 0, 1, 0, 0, 0), (.getfield 35, 3, 10, 7, 0)] (pc1 := 38) (lo1 := [some (.ref 47), some (.int (nI l)), none, none, none]) (st1 := [.int ((pm_set μ 47 7 2).1 47 7)]) (μ1 := pm_set μ 47 7 2) (vc := True) rfl (by decide +kernel) rfl trivial ?_
  rw [show (pm_set μ 47 7 2).1 47 7 = 2 from by rw [pm_set_hit] <;> omega]
  refine pm_if_le (off := 5) 43 (by decide +kernel) (by decide) (fun h9 => absurd h9 (by decide)) (fun _ => ?_)
  refine pm_bl [(.iconst 0, 1, 0, 0, 0)] (pc1 := 42) (lo1 := [some (.ref 47), some (.int (nI l)), none, none, none]) (st1 := [.int 0]) (μ1 := pm_set μ 47 7 2) (vc := True) rfl (by decide +kernel) rfl trivial ?_
  exact pm_iret (ty := .int) rfl rfl (by decide) (by decide) (by decide +kernel) (⟨rfl, rfl⟩)
set_option maxHeartbeats 4000000 in
set_option maxRecDepth 100000 in
theorem c_X10_daysLeft {g : Nat → Int32} {l : Nat} (μ : pm_Mm) (hM : μ.1 48 = g) (hG : lr_G g) (hl : l < lr_n g 289) (hI : lr_I g) (hw : g (294 + 11 * l) = 0) : pm_CT mi_X10_daysLeft [.ref 47, .int (nI l)] μ (fun v μ2 => v = some (.int (if (lr_lft g l (365 - lr_n g 0) 0) = -1 then 0 else (lr_lft g l (365 - lr_n g 0) 0))) ∧ lr_fs (if (lr_lft g l (365 - lr_n g 0) 0) = -1 then pm_set (pm_set μ 47 7 0) 47 7 3 else pm_set μ 47 7 0) μ2) pm_NX := by
  refine pm_CT_of (lo := [some (.ref 47), some (.int (nI l)), none, none, none]) (by decide +kernel) rfl rfl (by intro v hv; simp at hv; rcases hv with rfl | rfl <;> rfl) (Nat.le_of_ble_eq_true rfl) rfl ?_
  have hm1 := lr_mh hG; have hm2 := lr_mw hG; have hm3 := lr_mp hG; have hm4 := lr_mr hG; have hm5 := lr_ma hG; have hm6 := lr_ml hG
  refine pm_bl [(.aload_n 0, 1, 0, 0, 0), (.aload_n 0, 1, 0, 0, 0), (.iload_n 1, 1, 1, 0, 0)] (pc1 := 3) (lo1 := [some (.ref 47), some (.int (nI l)), none, none, none]) (st1 := [.int (nI l), .ref 47, .ref 47]) (μ1 := μ) (vc := True) rfl (by decide +kernel) rfl trivial ?_
  refine pm_callV2 mi_X10_isLetter (ix := 134) (b := 47) (ci := 10) (kc2 := 0) (ks2 := 0) (As := [.int (nI l)]) (rest := [.ref 47]) (c_X10_isLetter (nI l) μ hM hG) cal_X10_isLetter lk10_134 (by decide +kernel) rfl (by decide +kernel) rfl rfl rfl rfl (Nat.le_of_ble_eq_true rfl) (by decide) (by decide) (fun _ _ h9 => h9.elim) ?_
  rintro _ _ ⟨rfl, h9⟩; rw [h9]; clear h9
  show pm_V _ _ _ _ 6 _ [.int (lr_b (lr_be (nI l) (nI (lr_n g 289)))), .ref 47] _
  refine pm_ifb_ne (off := 7) 13 (by decide +kernel) (by decide) (fun (h6 : (lr_be (nI l) (nI (lr_n g 289))) = true) => ?_) (fun (h9 : (lr_be (nI l) (nI (lr_n g 289))) = false) => absurd (h9.symm.trans (lr_be_1 hl (by omega))) (by decide))
  refine pm_bl [(.aload_n 0, 1, 0, 0, 0), (.getfield 7, 3, 10, 0, 0), (.iload_n 1, 1, 1, 0, 0), (.iconst 4, 1, 0, 0, 4)] (pc1 := 19) (lo1 := [some (.ref 47), some (.int (nI l)), none, none, none]) (st1 := [.int 4, .int (nI l), .ref 48, .ref 47]) (μ1 := μ) (vc := True) rfl (by decide +kernel) rfl trivial ?_
  refine pm_callS2 mi_X10_at (ix := 127) (kc2 := 0) (ks2 := 0) (As := [.int (nI l), .int 4]) (rest := [.ref 48, .ref 47]) (c_X10_at (k := l) (c := 4) (n := 294 + 11 * l) μ (by omega)) cal_X10_at lk10_127 (by decide +kernel) rfl (by decide +kernel) rfl rfl (Nat.le_of_ble_eq_true rfl) (by decide) (by decide) (fun _ _ h9 => h9.elim) ?_
  rintro _ _ ⟨rfl, h9⟩; rw [h9]; clear h9
  show pm_V _ _ _ _ 22 _ [.int (nI (294 + 11 * l)), .ref 48, .ref 47] _
  refine pm_bl [(.iaload, 1, 0, 0, 0)] (pc1 := 23) (lo1 := [some (.ref 47), some (.int (nI l)), none, none, none]) (st1 := [.int (μ.1 48 (nI (294 + 11 * l)).toNatClampNeg), .ref 47]) (μ1 := μ) (vc := vp_in (nI (294 + 11 * l)) 620 ∧ True) rfl (by decide +kernel) rfl ⟨(vp_in_nI (by omega) (by omega)), trivial⟩ ?_
  first | rw [nI_clamp (n := 294 + 11 * l) (by omega), hM] | rw [hM]
  refine pm_if_eq (off := 7) 30 (by decide +kernel) (by decide) (fun (h23 : (g (294 + 11 * l)) = 0) => ?_) (fun (h9 : ¬ ((g (294 + 11 * l)) = 0)) => absurd hw h9)
  refine pm_bl [(.iconst 0, 1, 0, 0, 0), (.putfield 35, 3, 10, 7, 0), (.aload_n 0, 1, 0, 0, 0), (.getfield 35, 3, 10, 7, 0)] (pc1 := 38) (lo1 := [some (.ref 47), some (.int (nI l)), none, none, none]) (st1 := [.int ((pm_set μ 47 7 0).1 47 7)]) (μ1 := pm_set μ 47 7 0) (vc := True) rfl (by decide +kernel) rfl trivial ?_
  rw [show (pm_set μ 47 7 0).1 47 7 = 0 from by rw [pm_set_hit] <;> omega]
  refine pm_if_le (off := 5) 43 (by decide +kernel) (by decide) (fun _ => ?_) (fun h9 => absurd h9 (by decide))
  refine pm_bl [(.aload_n 0, 1, 0, 0, 0), (.getfield 7, 3, 10, 0, 0), (.iconst 0, 1, 0, 0, 0), (.aload_n 0, 1, 0, 0, 0), (.getfield 16, 3, 10, 2, 0), (.iconst 0, 1, 0, 0, 0)] (pc1 := 53) (lo1 := [some (.ref 47), some (.int (nI l)), none, none, none]) (st1 := [.int 0, .ref 50, .int 0, .ref 48]) (μ1 := pm_set μ 47 7 0) (vc := True) rfl (by decide +kernel) rfl trivial ?_
  refine pm_callS2 mi_X10_copies (ix := 52) (kc2 := 0) (ks2 := 0) (As := [.ref 48, .int 0, .ref 50, .int 0]) (rest := []) (c_X10_cp_48_50 (i := 0) (j := 0) (pm_set μ 47 7 0) rfl rfl (by omega) (by omega)) cal_X10_copies lk10_52 (by decide +kernel) rfl (by decide +kernel) rfl rfl (Nat.le_of_ble_eq_true rfl) (by decide) (by decide) (fun _ _ h9 => h9.elim) ?_
  rintro _ _ ⟨rfl, h9⟩; rw [h9]; clear h9
  show pm_V _ _ _ _ 56 _ [] _
  refine pm_bl [(.iconst 0, 1, 0, 0, 0), (.istore_n 2, 1, 2, 0, 0), (.iconst 0, 1, 0, 0, 0), (.istore_n 3, 1, 3, 0, 0)] (pc1 := 60) (lo1 := [some (.ref 47), some (.int (nI l)), some (.int 0), some (.int 0), none]) (st1 := []) (μ1 := pm_row (pm_set μ 47 7 0) 50 (lr_cpy ((pm_set μ 47 7 0).1 48) ((pm_set μ 47 7 0).1 50) 0 0 620)) (vc := True) rfl (by decide +kernel) rfl trivial ?_
  refine l_X10_daysLeft (μ0 := pm_set μ 47 7 0) (by rw [pm_set_off (by decide)]; exact hM) hI hl (365 - lr_n g 0) 0 (by have := lr_mT hG; omega) rfl 0 _ ?_ ?_
  · exact lr_fsp.rf
  · rw [pm_row_off (by decide), pm_set_off (by decide)]; exact hM
