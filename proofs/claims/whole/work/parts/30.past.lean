/-! the model: its past -/
theorem c_X10_cp_48_49 {i j : Nat} {x y : Int32} (μ : pm_Mm) (hx : x = nI i) (hy : y = nI j) (hi : i + 620 ≤ 620) (hj : j + 620 ≤ 620) : pm_CT mi_X10_copies [.ref 48, .int x, .ref 49, .int y] μ (fun v μ2 => v = none ∧ μ2 = pm_row μ 49 (lr_cpy (μ.1 48) (μ.1 49) i j 620)) pm_NX := by
  subst hx; subst hy; exact c_X10_copies_48_49 μ hi hj
theorem c_X10_cp_49_48 {i j : Nat} {x y : Int32} (μ : pm_Mm) (hx : x = nI i) (hy : y = nI j) (hi : i + 620 ≤ 620) (hj : j + 620 ≤ 620) : pm_CT mi_X10_copies [.ref 49, .int x, .ref 48, .int y] μ (fun v μ2 => v = none ∧ μ2 = pm_row μ 48 (lr_cpy (μ.1 49) (μ.1 48) i j 620)) pm_NX := by
  subst hx; subst hy; exact c_X10_copies_49_48 μ hi hj
theorem c_X10_cp_48_50 {i j : Nat} {x y : Int32} (μ : pm_Mm) (hx : x = nI i) (hy : y = nI j) (hi : i + 620 ≤ 620) (hj : j + 620 ≤ 620) : pm_CT mi_X10_copies [.ref 48, .int x, .ref 50, .int y] μ (fun v μ2 => v = none ∧ μ2 = pm_row μ 50 (lr_cpy (μ.1 48) (μ.1 50) i j 620)) pm_NX := by
  subst hx; subst hy; exact c_X10_copies_48_50 μ hi hj
theorem c_X10_cp_50_48 {i j : Nat} {x y : Int32} (μ : pm_Mm) (hx : x = nI i) (hy : y = nI j) (hi : i + 620 ≤ 620) (hj : j + 620 ≤ 620) : pm_CT mi_X10_copies [.ref 50, .int x, .ref 48, .int y] μ (fun v μ2 => v = none ∧ μ2 = pm_row μ 48 (lr_cpy (μ.1 50) (μ.1 48) i j 620)) pm_NX := by
  subst hx; subst hy; exact c_X10_copies_50_48 μ hi hj
theorem c_X10_cp_51_48 {i j : Nat} {x y : Int32} (μ : pm_Mm) (hx : x = nI i) (hy : y = nI j) (hi : i + 620 ≤ 4960) (hj : j + 620 ≤ 620) : pm_CT mi_X10_copies [.ref 51, .int x, .ref 48, .int y] μ (fun v μ2 => v = none ∧ μ2 = pm_row μ 48 (lr_cpy (μ.1 51) (μ.1 48) i j 620)) pm_NX := by
  subst hx; subst hy; exact c_X10_copies_51_48 μ hi hj
theorem c_X10_cp_48_51 {i j : Nat} {x y : Int32} (μ : pm_Mm) (hx : x = nI i) (hy : y = nI j) (hi : i + 620 ≤ 620) (hj : j + 620 ≤ 4960) : pm_CT mi_X10_copies [.ref 48, .int x, .ref 51, .int y] μ (fun v μ2 => v = none ∧ μ2 = pm_row μ 51 (lr_cpy (μ.1 48) (μ.1 51) i j 620)) pm_NX := by
  subst hx; subst hy; exact c_X10_copies_48_51 μ hi hj
theorem c_X10_cp_50_51 {i j : Nat} {x y : Int32} (μ : pm_Mm) (hx : x = nI i) (hy : y = nI j) (hi : i + 620 ≤ 620) (hj : j + 620 ≤ 4960) : pm_CT mi_X10_copies [.ref 50, .int x, .ref 51, .int y] μ (fun v μ2 => v = none ∧ μ2 = pm_row μ 51 (lr_cpy (μ.1 50) (μ.1 51) i j 620)) pm_NX := by
  subst hx; subst hy; exact c_X10_copies_50_51 μ hi hj
/-- the oldest gone: k places of 620 moved down -/
def lr_sft (f : Nat → Int32) (k : Nat) : Nat → Int32 := fun x => if x < k then f (x + 620) else f x
theorem lr_sft_0 (f : Nat → Int32) : lr_sft f 0 = f := by funext x; unfold lr_sft; rw [if_neg (by omega)]
theorem lr_sft_s {μ : pm_Mm} {k : Nat} : pm_set (pm_row μ 51 (lr_sft (μ.1 51) k)) 51 k ((pm_row μ 51 (lr_sft (μ.1 51) k)).1 51 (k + 620)) = pm_row μ 51 (lr_sft (μ.1 51) (k + 1)) := by
  rw [pm_row_at]
  refine Prod.ext (funext fun r => funext fun x => ?_) rfl
  show (if r = 51 ∧ x = k then lr_sft (μ.1 51) k (k + 620) else (if r = 51 then lr_sft (μ.1 51) k else μ.1 r) x) = (if r = 51 then lr_sft (μ.1 51) (k + 1) else μ.1 r) x
  by_cases hr : r = 51
  · rw [if_pos hr, if_pos hr]
    by_cases hx : x = k
    · rw [if_pos ⟨hr, hx⟩]; unfold lr_sft; rw [if_neg (by omega), if_pos (by omega), hx]
    · rw [if_neg (fun e => hx e.2)]; unfold lr_sft
      by_cases h1 : x < k
      · rw [if_pos h1, if_pos (by omega)]
      · rw [if_neg h1, if_neg (by omega)]
  · rw [if_neg (fun e => hr e.1), if_neg hr, if_neg hr]
/-- row S kept as the newest of the past -/
def lr_chg (μ : pm_Mm) (S : Nat) : pm_Mm := if μ.1 47 5 = 8 then pm_set (pm_row (pm_set (pm_row μ 51 (lr_sft (μ.1 51) 4340)) 47 5 7) 51 (lr_cpy (μ.1 S) (lr_sft (μ.1 51) 4340) 0 4340 620)) 47 5 8 else pm_set (pm_row μ 51 (lr_cpy (μ.1 S) (μ.1 51) 0 (620 * (μ.1 47 5).toNatClampNeg) 620)) 47 5 (μ.1 47 5 + 1)
theorem lr_chg_off {μ : pm_Mm} {S i : Nat} (h1 : i ≠ 47) (h2 : i ≠ 51) : (lr_chg μ S).1 i = μ.1 i := by
  unfold lr_chg
  by_cases h : μ.1 47 5 = 8
  · rw [if_pos h, pm_set_off h1, pm_row_off h2, pm_set_off h1, pm_row_off h2]
  · rw [if_neg h, pm_set_off h1, pm_row_off h2]
theorem lr_chg_47 {μ : pm_Mm} {S k : Nat} (h1 : k ≠ 5) : (lr_chg μ S).1 47 k = μ.1 47 k := by
  unfold lr_chg
  by_cases h : μ.1 47 5 = 8
  · rw [if_pos h, pm_set_miss (Or.inr h1), pm_row_off (by decide), pm_set_miss (Or.inr h1), pm_row_off (by decide)]
  · rw [if_neg h, pm_set_miss (Or.inr h1), pm_row_off (by decide)]
theorem lr_chg_2 {μ : pm_Mm} {S : Nat} : (lr_chg μ S).2 = μ.2 := by
  unfold lr_chg
  by_cases h : μ.1 47 5 = 8
  · rw [if_pos h]; rfl
  · rw [if_neg h]; rfl
set_option maxHeartbeats 4000000 in
set_option maxRecDepth 100000 in
theorem c_X10_changes_48_lt {c : Nat} (μ : pm_Mm) (hp : μ.1 47 5 = nI c) (hc : c < 8) : pm_CT mi_X10_changes [.ref 47, .ref 48] μ (fun v μ2 => v = none ∧ μ2 = lr_chg μ 48) pm_NX := by
  refine pm_CT_of (lo := [some (.ref 47), some (.ref 48), none]) (by decide +kernel) rfl rfl (by intro v hv; simp at hv; rcases hv with rfl | rfl <;> rfl) (Nat.le_of_ble_eq_true rfl) rfl ?_
  refine pm_bl [(.aload_n 0, 1, 0, 0, 0), (.getfield 49, 3, 10, 5, 0)] (pc1 := 4) (lo1 := [some (.ref 47), some (.ref 48), none]) (st1 := [.int (μ.1 47 5)]) (μ1 := μ) (vc := True) rfl (by decide +kernel) rfl trivial ?_
  rw [hp]
  refine pm_bl [(.bipush 8, 2, 0, 0, 8)] (pc1 := 6) (lo1 := [some (.ref 47), some (.ref 48), none]) (st1 := [.int 8, .int (nI c)]) (μ1 := μ) (vc := True) rfl (by decide +kernel) rfl trivial ?_
  refine pm_icmp_ne (off := 44) 50 (by decide +kernel) (by decide) (fun (h6 : ¬ (nI c) = 8) => ?_) (fun (h9 : (nI c) = 8) => absurd ((nI_eq (a := c) (b := 8) (by omega) (by omega)).mp h9) (by omega))
  refine pm_bl [(.aload_n 1, 1, 1, 0, 0), (.iconst 0, 1, 0, 0, 0), (.aload_n 0, 1, 0, 0, 0), (.getfield 19, 3, 10, 4, 0), (.sipush 620, 3, 0, 0, 620), (.aload_n 0, 1, 0, 0, 0), (.getfield 49, 3, 10, 5, 0)] (pc1 := 63) (lo1 := [some (.ref 47), some (.ref 48), none]) (st1 := [.int (μ.1 47 5), .int 620, .ref 51, .int 0, .ref 48]) (μ1 := μ) (vc := True) rfl (by decide +kernel) rfl trivial ?_
  rw [hp]
  refine pm_bl [(.imul, 1, 0, 0, 0)] (pc1 := 64) (lo1 := [some (.ref 47), some (.ref 48), none]) (st1 := [.int (620 * (nI c)), .ref 51, .int 0, .ref 48]) (μ1 := μ) (vc := True) rfl (by decide +kernel) rfl trivial ?_
  refine pm_callS2 mi_X10_copies (ix := 52) (kc2 := 0) (ks2 := 0) (As := [.ref 48, .int 0, .ref 51, .int (620 * (nI c))]) (rest := []) (c_X10_cp_48_51 (i := 0) (j := 620 * c) μ rfl ((show (620 * (nI c) : Int32) = nI (620 * (c)) from by simp only [nI, Int32.ofNat_add, Int32.ofNat_mul]; rfl).trans (congrArg nI (show 620 * (c) = 620 * c from by omega))) (by omega) (by omega)) cal_X10_copies lk10_52 (by decide +kernel) rfl (by decide +kernel) rfl rfl (Nat.le_of_ble_eq_true rfl) (by decide) (by decide) (fun _ _ h9 => h9.elim) ?_
  rintro _ _ ⟨rfl, h9⟩; rw [h9]; clear h9
  show pm_V _ _ _ _ 67 _ [] _
  refine pm_bl [(.aload_n 0, 1, 0, 0, 0), (.dup, 1, 0, 0, 0), (.getfield 49, 3, 10, 5, 0)] (pc1 := 72) (lo1 := [some (.ref 47), some (.ref 48), none]) (st1 := [.int ((pm_row μ 51 (lr_cpy (μ.1 48) (μ.1 51) 0 (620 * c) 620)).1 47 5), .ref 47]) (μ1 := pm_row μ 51 (lr_cpy (μ.1 48) (μ.1 51) 0 (620 * c) 620)) (vc := True) rfl (by decide +kernel) rfl trivial ?_
  rw [show (pm_row μ 51 (lr_cpy (μ.1 48) (μ.1 51) 0 (620 * c) 620)).1 47 5 = nI c from by rw [pm_row_off (by decide), hp]]
  refine pm_bl [(.iconst 1, 1, 0, 0, 1), (.iadd, 1, 0, 0, 0), (.putfield 49, 3, 10, 5, 0)] (pc1 := 77) (lo1 := [some (.ref 47), some (.ref 48), none]) (st1 := []) (μ1 := pm_set (pm_row μ 51 (lr_cpy (μ.1 48) (μ.1 51) 0 (620 * c) 620)) 47 5 ((nI c) + 1)) (vc := True) rfl (by decide +kernel) rfl trivial ?_
  exact pm_vret rfl (by decide) (by decide) (by decide +kernel) (⟨rfl, by rw [lr_chg, hp, if_neg h6, nI_clamp (by omega)]⟩)
set_option maxHeartbeats 4000000 in
set_option maxRecDepth 100000 in
theorem l_X10_changes_48 (μ : pm_Mm) (hp : μ.1 47 5 = nI 8) : ∀ n k : Nat, k + n = 4340 → ∀ μ1 : pm_Mm, μ1 = pm_row μ 51 (lr_sft (μ.1 51) k) → pm_V mi_X10_changes ((fun v μ2 => v = none ∧ μ2 = lr_chg μ 48), pm_NX, fun _ _ _ => True) 0 0 11 [some (.ref 47), some (.ref 48), some (.int (nI k))] [] μ1 := by
  intro n
  induction n with
  | zero =>
    intro k hk μ1 hm
    refine pm_bl [(.iload_n 2, 1, 2, 0, 0), (.sipush 4340, 3, 0, 0, 4340)] (pc1 := 15) (lo1 := [some (.ref 47), some (.ref 48), some (.int (nI k))]) (st1 := [.int 4340, .int (nI k)]) (μ1 := μ1) (vc := True) rfl (by decide +kernel) rfl trivial ?_
    refine pm_icmp_ge (off := 25) 40 (by decide +kernel) (by decide) (fun (h15 : 4340 ≤ (nI k)) => ?_) (fun (h9 : ¬ (4340 ≤ (nI k))) => absurd (nI_le (a := 4340) (by omega) (by omega)) h9)
    refine pm_bl [(.aload_n 0, 1, 0, 0, 0), (.dup, 1, 0, 0, 0), (.getfield 49, 3, 10, 5, 0)] (pc1 := 45) (lo1 := [some (.ref 47), some (.ref 48), some (.int (nI k))]) (st1 := [.int (μ1.1 47 5), .ref 47]) (μ1 := μ1) (vc := True) rfl (by decide +kernel) rfl trivial ?_
    rw [show μ1.1 47 5 = nI 8 from by rw [hm, pm_row_off (by decide), hp]]
    refine pm_bl [(.iconst 1, 1, 0, 0, 1), (.isub, 1, 0, 0, 0), (.putfield 49, 3, 10, 5, 0), (.aload_n 1, 1, 1, 0, 0), (.iconst 0, 1, 0, 0, 0), (.aload_n 0, 1, 0, 0, 0), (.getfield 19, 3, 10, 4, 0), (.sipush 620, 3, 0, 0, 620), (.aload_n 0, 1, 0, 0, 0), (.getfield 49, 3, 10, 5, 0)] (pc1 := 63) (lo1 := [some (.ref 47), some (.ref 48), some (.int (nI k))]) (st1 := [.int ((pm_set μ1 47 5 ((nI 8) - 1)).1 47 5), .int 620, .ref 51, .int 0, .ref 48]) (μ1 := pm_set μ1 47 5 ((nI 8) - 1)) (vc := True) rfl (by decide +kernel) rfl trivial ?_
    rw [show (pm_set μ1 47 5 ((nI 8) - 1)).1 47 5 = (nI 8) - 1 from by rw [pm_set_hit] <;> omega]
    refine pm_bl [(.imul, 1, 0, 0, 0)] (pc1 := 64) (lo1 := [some (.ref 47), some (.ref 48), some (.int (nI k))]) (st1 := [.int (620 * ((nI 8) - 1)), .ref 51, .int 0, .ref 48]) (μ1 := pm_set μ1 47 5 ((nI 8) - 1)) (vc := True) rfl (by decide +kernel) rfl trivial ?_
    refine pm_callS2 mi_X10_copies (ix := 52) (kc2 := 0) (ks2 := 0) (As := [.ref 48, .int 0, .ref 51, .int (620 * ((nI 8) - 1))]) (rest := []) (c_X10_cp_48_51 (i := 0) (j := 4340) (pm_set μ1 47 5 ((nI 8) - 1)) rfl (by decide) (by omega) (by omega)) cal_X10_copies lk10_52 (by decide +kernel) rfl (by decide +kernel) rfl rfl (Nat.le_of_ble_eq_true rfl) (by decide) (by decide) (fun _ _ h9 => h9.elim) ?_
    rintro _ _ ⟨rfl, h9⟩; rw [h9]; clear h9
    show pm_V _ _ _ _ 67 _ [] _
    refine pm_bl [(.aload_n 0, 1, 0, 0, 0), (.dup, 1, 0, 0, 0), (.getfield 49, 3, 10, 5, 0)] (pc1 := 72) (lo1 := [some (.ref 47), some (.ref 48), some (.int (nI k))]) (st1 := [.int ((pm_row (pm_set μ1 47 5 ((nI 8) - 1)) 51 (lr_cpy ((pm_set μ1 47 5 ((nI 8) - 1)).1 48) ((pm_set μ1 47 5 ((nI 8) - 1)).1 51) 0 4340 620)).1 47 5), .ref 47]) (μ1 := pm_row (pm_set μ1 47 5 ((nI 8) - 1)) 51 (lr_cpy ((pm_set μ1 47 5 ((nI 8) - 1)).1 48) ((pm_set μ1 47 5 ((nI 8) - 1)).1 51) 0 4340 620)) (vc := True) rfl (by decide +kernel) rfl trivial ?_
    rw [show (pm_row (pm_set μ1 47 5 ((nI 8) - 1)) 51 (lr_cpy ((pm_set μ1 47 5 ((nI 8) - 1)).1 48) ((pm_set μ1 47 5 ((nI 8) - 1)).1 51) 0 4340 620)).1 47 5 = (nI 8) - 1 from by rw [pm_row_off (by decide), pm_set_hit]]
    refine pm_bl [(.iconst 1, 1, 0, 0, 1), (.iadd, 1, 0, 0, 0), (.putfield 49, 3, 10, 5, 0)] (pc1 := 77) (lo1 := [some (.ref 47), some (.ref 48), some (.int (nI k))]) (st1 := []) (μ1 := pm_set (pm_row (pm_set μ1 47 5 ((nI 8) - 1)) 51 (lr_cpy ((pm_set μ1 47 5 ((nI 8) - 1)).1 48) ((pm_set μ1 47 5 ((nI 8) - 1)).1 51) 0 4340 620)) 47 5 (((nI 8) - 1) + 1)) (vc := True) rfl (by decide +kernel) rfl trivial ?_
    exact pm_vret rfl (by decide) (by decide) (by decide +kernel) (⟨rfl, by rw [lr_chg, if_pos (hp.trans (by decide)), pm_set_off (by decide), pm_set_off (by decide), hm, pm_row_at, pm_row_off (by decide), show k = 4340 from by omega]; rfl⟩)
  | succ n ih =>
    intro k hk μ1 hm
    refine pm_bl [(.iload_n 2, 1, 2, 0, 0), (.sipush 4340, 3, 0, 0, 4340)] (pc1 := 15) (lo1 := [some (.ref 47), some (.ref 48), some (.int (nI k))]) (st1 := [.int 4340, .int (nI k)]) (μ1 := μ1) (vc := True) rfl (by decide +kernel) rfl trivial ?_
    refine pm_icmp_ge (off := 25) 40 (by decide +kernel) (by decide) (fun (h9 : 4340 ≤ (nI k)) => absurd h9 (nI_ge (b := 4340) (by omega) (by omega))) (fun (h15 : ¬ (4340 ≤ (nI k))) => ?_)
    refine pm_bl [(.aload_n 0, 1, 0, 0, 0), (.getfield 19, 3, 10, 4, 0), (.iload_n 2, 1, 2, 0, 0), (.aload_n 0, 1, 0, 0, 0), (.getfield 19, 3, 10, 4, 0), (.iload_n 2, 1, 2, 0, 0), (.sipush 620, 3, 0, 0, 620), (.iadd, 1, 0, 0, 0)] (pc1 := 32) (lo1 := [some (.ref 47), some (.ref 48), some (.int (nI k))]) (st1 := [.int ((nI k) + 620), .ref 51, .int (nI k), .ref 51]) (μ1 := μ1) (vc := True) rfl (by decide +kernel) rfl trivial ?_
    rw [(show ((nI k) + 620 : Int32) = nI ((k) + 620) from by simp only [nI, Int32.ofNat_add, Int32.ofNat_mul]; rfl).trans (congrArg nI (show (k) + 620 = 620 + k from by omega))]
    refine pm_bl [(.iaload, 1, 0, 0, 0), (.iastore, 1, 0, 0, 0), (.iinc 2 1, 3, 2, 0, 1), (.goto (-26), 3, 11, 0, 0)] (pc1 := 11) (lo1 := [some (.ref 47), some (.ref 48), some (.int ((nI k) + 1))]) (st1 := []) (μ1 := pm_set μ1 51 ((nI k).toNatClampNeg) (μ1.1 51 (nI (620 + k)).toNatClampNeg)) (vc := vp_in (nI (620 + k)) 4960 ∧ vp_in (nI k) 4960 ∧ True) rfl (by decide +kernel) rfl ⟨(vp_in_nI (by omega) (by omega)), (vp_in_nI (by omega) (by omega)), trivial⟩ ?_
    try rw [nI_clamp (n := k) (by omega)]
    rw [nI_1]; refine ih (k + 1) (by omega) _ ?_
    try rw [nI_clamp (n := k) (by omega)]
    try rw [nI_clamp (n := 620 + k) (by omega)]
    rw [hm, Nat.add_comm 620 k]
    exact lr_sft_s
set_option maxHeartbeats 4000000 in
set_option maxRecDepth 100000 in
theorem c_X10_changes_48 {c : Nat} (μ : pm_Mm) (hp : μ.1 47 5 = nI c) (hc : c ≤ 8) : pm_CT mi_X10_changes [.ref 47, .ref 48] μ (fun v μ2 => v = none ∧ μ2 = lr_chg μ 48) pm_NX := by
  rcases Nat.lt_or_ge c 8 with h8 | h8
  · exact c_X10_changes_48_lt μ hp h8
  obtain rfl : c = 8 := by omega
  refine pm_CT_of (lo := [some (.ref 47), some (.ref 48), none]) (by decide +kernel) rfl rfl (by intro v hv; simp at hv; rcases hv with rfl | rfl <;> rfl) (Nat.le_of_ble_eq_true rfl) rfl ?_
  refine pm_bl [(.aload_n 0, 1, 0, 0, 0), (.getfield 49, 3, 10, 5, 0)] (pc1 := 4) (lo1 := [some (.ref 47), some (.ref 48), none]) (st1 := [.int (μ.1 47 5)]) (μ1 := μ) (vc := True) rfl (by decide +kernel) rfl trivial ?_
  rw [hp]
  refine pm_bl [(.bipush 8, 2, 0, 0, 8)] (pc1 := 6) (lo1 := [some (.ref 47), some (.ref 48), none]) (st1 := [.int 8, .int (nI 8)]) (μ1 := μ) (vc := True) rfl (by decide +kernel) rfl trivial ?_
  refine pm_icmp_ne (off := 44) 50 (by decide +kernel) (by decide) (fun (h9 : ¬ (nI 8) = 8) => absurd (by decide) h9) (fun (h6 : (nI 8) = 8) => ?_)
  refine pm_bl [(.iconst 0, 1, 0, 0, 0), (.istore_n 2, 1, 2, 0, 0)] (pc1 := 11) (lo1 := [some (.ref 47), some (.ref 48), some (.int 0)]) (st1 := []) (μ1 := μ) (vc := True) rfl (by decide +kernel) rfl trivial ?_
  exact l_X10_changes_48 μ hp 4340 0 rfl μ (by rw [lr_sft_0, pm_row_self])
set_option maxHeartbeats 4000000 in
set_option maxRecDepth 100000 in
theorem c_X10_changes_50_lt {c : Nat} (μ : pm_Mm) (hp : μ.1 47 5 = nI c) (hc : c < 8) : pm_CT mi_X10_changes [.ref 47, .ref 50] μ (fun v μ2 => v = none ∧ μ2 = lr_chg μ 50) pm_NX := by
  refine pm_CT_of (lo := [some (.ref 47), some (.ref 50), none]) (by decide +kernel) rfl rfl (by intro v hv; simp at hv; rcases hv with rfl | rfl <;> rfl) (Nat.le_of_ble_eq_true rfl) rfl ?_
  refine pm_bl [(.aload_n 0, 1, 0, 0, 0), (.getfield 49, 3, 10, 5, 0)] (pc1 := 4) (lo1 := [some (.ref 47), some (.ref 50), none]) (st1 := [.int (μ.1 47 5)]) (μ1 := μ) (vc := True) rfl (by decide +kernel) rfl trivial ?_
  rw [hp]
  refine pm_bl [(.bipush 8, 2, 0, 0, 8)] (pc1 := 6) (lo1 := [some (.ref 47), some (.ref 50), none]) (st1 := [.int 8, .int (nI c)]) (μ1 := μ) (vc := True) rfl (by decide +kernel) rfl trivial ?_
  refine pm_icmp_ne (off := 44) 50 (by decide +kernel) (by decide) (fun (h6 : ¬ (nI c) = 8) => ?_) (fun (h9 : (nI c) = 8) => absurd ((nI_eq (a := c) (b := 8) (by omega) (by omega)).mp h9) (by omega))
  refine pm_bl [(.aload_n 1, 1, 1, 0, 0), (.iconst 0, 1, 0, 0, 0), (.aload_n 0, 1, 0, 0, 0), (.getfield 19, 3, 10, 4, 0), (.sipush 620, 3, 0, 0, 620), (.aload_n 0, 1, 0, 0, 0), (.getfield 49, 3, 10, 5, 0)] (pc1 := 63) (lo1 := [some (.ref 47), some (.ref 50), none]) (st1 := [.int (μ.1 47 5), .int 620, .ref 51, .int 0, .ref 50]) (μ1 := μ) (vc := True) rfl (by decide +kernel) rfl trivial ?_
  rw [hp]
  refine pm_bl [(.imul, 1, 0, 0, 0)] (pc1 := 64) (lo1 := [some (.ref 47), some (.ref 50), none]) (st1 := [.int (620 * (nI c)), .ref 51, .int 0, .ref 50]) (μ1 := μ) (vc := True) rfl (by decide +kernel) rfl trivial ?_
  refine pm_callS2 mi_X10_copies (ix := 52) (kc2 := 0) (ks2 := 0) (As := [.ref 50, .int 0, .ref 51, .int (620 * (nI c))]) (rest := []) (c_X10_cp_50_51 (i := 0) (j := 620 * c) μ rfl ((show (620 * (nI c) : Int32) = nI (620 * (c)) from by simp only [nI, Int32.ofNat_add, Int32.ofNat_mul]; rfl).trans (congrArg nI (show 620 * (c) = 620 * c from by omega))) (by omega) (by omega)) cal_X10_copies lk10_52 (by decide +kernel) rfl (by decide +kernel) rfl rfl (Nat.le_of_ble_eq_true rfl) (by decide) (by decide) (fun _ _ h9 => h9.elim) ?_
  rintro _ _ ⟨rfl, h9⟩; rw [h9]; clear h9
  show pm_V _ _ _ _ 67 _ [] _
  refine pm_bl [(.aload_n 0, 1, 0, 0, 0), (.dup, 1, 0, 0, 0), (.getfield 49, 3, 10, 5, 0)] (pc1 := 72) (lo1 := [some (.ref 47), some (.ref 50), none]) (st1 := [.int ((pm_row μ 51 (lr_cpy (μ.1 50) (μ.1 51) 0 (620 * c) 620)).1 47 5), .ref 47]) (μ1 := pm_row μ 51 (lr_cpy (μ.1 50) (μ.1 51) 0 (620 * c) 620)) (vc := True) rfl (by decide +kernel) rfl trivial ?_
  rw [show (pm_row μ 51 (lr_cpy (μ.1 50) (μ.1 51) 0 (620 * c) 620)).1 47 5 = nI c from by rw [pm_row_off (by decide), hp]]
  refine pm_bl [(.iconst 1, 1, 0, 0, 1), (.iadd, 1, 0, 0, 0), (.putfield 49, 3, 10, 5, 0)] (pc1 := 77) (lo1 := [some (.ref 47), some (.ref 50), none]) (st1 := []) (μ1 := pm_set (pm_row μ 51 (lr_cpy (μ.1 50) (μ.1 51) 0 (620 * c) 620)) 47 5 ((nI c) + 1)) (vc := True) rfl (by decide +kernel) rfl trivial ?_
  exact pm_vret rfl (by decide) (by decide) (by decide +kernel) (⟨rfl, by rw [lr_chg, hp, if_neg h6, nI_clamp (by omega)]⟩)
set_option maxHeartbeats 4000000 in
set_option maxRecDepth 100000 in
theorem l_X10_changes_50 (μ : pm_Mm) (hp : μ.1 47 5 = nI 8) : ∀ n k : Nat, k + n = 4340 → ∀ μ1 : pm_Mm, μ1 = pm_row μ 51 (lr_sft (μ.1 51) k) → pm_V mi_X10_changes ((fun v μ2 => v = none ∧ μ2 = lr_chg μ 50), pm_NX, fun _ _ _ => True) 0 0 11 [some (.ref 47), some (.ref 50), some (.int (nI k))] [] μ1 := by
  intro n
  induction n with
  | zero =>
    intro k hk μ1 hm
    refine pm_bl [(.iload_n 2, 1, 2, 0, 0), (.sipush 4340, 3, 0, 0, 4340)] (pc1 := 15) (lo1 := [some (.ref 47), some (.ref 50), some (.int (nI k))]) (st1 := [.int 4340, .int (nI k)]) (μ1 := μ1) (vc := True) rfl (by decide +kernel) rfl trivial ?_
    refine pm_icmp_ge (off := 25) 40 (by decide +kernel) (by decide) (fun (h15 : 4340 ≤ (nI k)) => ?_) (fun (h9 : ¬ (4340 ≤ (nI k))) => absurd (nI_le (a := 4340) (by omega) (by omega)) h9)
    refine pm_bl [(.aload_n 0, 1, 0, 0, 0), (.dup, 1, 0, 0, 0), (.getfield 49, 3, 10, 5, 0)] (pc1 := 45) (lo1 := [some (.ref 47), some (.ref 50), some (.int (nI k))]) (st1 := [.int (μ1.1 47 5), .ref 47]) (μ1 := μ1) (vc := True) rfl (by decide +kernel) rfl trivial ?_
    rw [show μ1.1 47 5 = nI 8 from by rw [hm, pm_row_off (by decide), hp]]
    refine pm_bl [(.iconst 1, 1, 0, 0, 1), (.isub, 1, 0, 0, 0), (.putfield 49, 3, 10, 5, 0), (.aload_n 1, 1, 1, 0, 0), (.iconst 0, 1, 0, 0, 0), (.aload_n 0, 1, 0, 0, 0), (.getfield 19, 3, 10, 4, 0), (.sipush 620, 3, 0, 0, 620), (.aload_n 0, 1, 0, 0, 0), (.getfield 49, 3, 10, 5, 0)] (pc1 := 63) (lo1 := [some (.ref 47), some (.ref 50), some (.int (nI k))]) (st1 := [.int ((pm_set μ1 47 5 ((nI 8) - 1)).1 47 5), .int 620, .ref 51, .int 0, .ref 50]) (μ1 := pm_set μ1 47 5 ((nI 8) - 1)) (vc := True) rfl (by decide +kernel) rfl trivial ?_
    rw [show (pm_set μ1 47 5 ((nI 8) - 1)).1 47 5 = (nI 8) - 1 from by rw [pm_set_hit] <;> omega]
    refine pm_bl [(.imul, 1, 0, 0, 0)] (pc1 := 64) (lo1 := [some (.ref 47), some (.ref 50), some (.int (nI k))]) (st1 := [.int (620 * ((nI 8) - 1)), .ref 51, .int 0, .ref 50]) (μ1 := pm_set μ1 47 5 ((nI 8) - 1)) (vc := True) rfl (by decide +kernel) rfl trivial ?_
    refine pm_callS2 mi_X10_copies (ix := 52) (kc2 := 0) (ks2 := 0) (As := [.ref 50, .int 0, .ref 51, .int (620 * ((nI 8) - 1))]) (rest := []) (c_X10_cp_50_51 (i := 0) (j := 4340) (pm_set μ1 47 5 ((nI 8) - 1)) rfl (by decide) (by omega) (by omega)) cal_X10_copies lk10_52 (by decide +kernel) rfl (by decide +kernel) rfl rfl (Nat.le_of_ble_eq_true rfl) (by decide) (by decide) (fun _ _ h9 => h9.elim) ?_
    rintro _ _ ⟨rfl, h9⟩; rw [h9]; clear h9
    show pm_V _ _ _ _ 67 _ [] _
    refine pm_bl [(.aload_n 0, 1, 0, 0, 0), (.dup, 1, 0, 0, 0), (.getfield 49, 3, 10, 5, 0)] (pc1 := 72) (lo1 := [some (.ref 47), some (.ref 50), some (.int (nI k))]) (st1 := [.int ((pm_row (pm_set μ1 47 5 ((nI 8) - 1)) 51 (lr_cpy ((pm_set μ1 47 5 ((nI 8) - 1)).1 50) ((pm_set μ1 47 5 ((nI 8) - 1)).1 51) 0 4340 620)).1 47 5), .ref 47]) (μ1 := pm_row (pm_set μ1 47 5 ((nI 8) - 1)) 51 (lr_cpy ((pm_set μ1 47 5 ((nI 8) - 1)).1 50) ((pm_set μ1 47 5 ((nI 8) - 1)).1 51) 0 4340 620)) (vc := True) rfl (by decide +kernel) rfl trivial ?_
    rw [show (pm_row (pm_set μ1 47 5 ((nI 8) - 1)) 51 (lr_cpy ((pm_set μ1 47 5 ((nI 8) - 1)).1 50) ((pm_set μ1 47 5 ((nI 8) - 1)).1 51) 0 4340 620)).1 47 5 = (nI 8) - 1 from by rw [pm_row_off (by decide), pm_set_hit]]
    refine pm_bl [(.iconst 1, 1, 0, 0, 1), (.iadd, 1, 0, 0, 0), (.putfield 49, 3, 10, 5, 0)] (pc1 := 77) (lo1 := [some (.ref 47), some (.ref 50), some (.int (nI k))]) (st1 := []) (μ1 := pm_set (pm_row (pm_set μ1 47 5 ((nI 8) - 1)) 51 (lr_cpy ((pm_set μ1 47 5 ((nI 8) - 1)).1 50) ((pm_set μ1 47 5 ((nI 8) - 1)).1 51) 0 4340 620)) 47 5 (((nI 8) - 1) + 1)) (vc := True) rfl (by decide +kernel) rfl trivial ?_
    exact pm_vret rfl (by decide) (by decide) (by decide +kernel) (⟨rfl, by rw [lr_chg, if_pos (hp.trans (by decide)), pm_set_off (by decide), pm_set_off (by decide), hm, pm_row_at, pm_row_off (by decide), show k = 4340 from by omega]; rfl⟩)
  | succ n ih =>
    intro k hk μ1 hm
    refine pm_bl [(.iload_n 2, 1, 2, 0, 0), (.sipush 4340, 3, 0, 0, 4340)] (pc1 := 15) (lo1 := [some (.ref 47), some (.ref 50), some (.int (nI k))]) (st1 := [.int 4340, .int (nI k)]) (μ1 := μ1) (vc := True) rfl (by decide +kernel) rfl trivial ?_
    refine pm_icmp_ge (off := 25) 40 (by decide +kernel) (by decide) (fun (h9 : 4340 ≤ (nI k)) => absurd h9 (nI_ge (b := 4340) (by omega) (by omega))) (fun (h15 : ¬ (4340 ≤ (nI k))) => ?_)
    refine pm_bl [(.aload_n 0, 1, 0, 0, 0), (.getfield 19, 3, 10, 4, 0), (.iload_n 2, 1, 2, 0, 0), (.aload_n 0, 1, 0, 0, 0), (.getfield 19, 3, 10, 4, 0), (.iload_n 2, 1, 2, 0, 0), (.sipush 620, 3, 0, 0, 620), (.iadd, 1, 0, 0, 0)] (pc1 := 32) (lo1 := [some (.ref 47), some (.ref 50), some (.int (nI k))]) (st1 := [.int ((nI k) + 620), .ref 51, .int (nI k), .ref 51]) (μ1 := μ1) (vc := True) rfl (by decide +kernel) rfl trivial ?_
    rw [(show ((nI k) + 620 : Int32) = nI ((k) + 620) from by simp only [nI, Int32.ofNat_add, Int32.ofNat_mul]; rfl).trans (congrArg nI (show (k) + 620 = 620 + k from by omega))]
    refine pm_bl [(.iaload, 1, 0, 0, 0), (.iastore, 1, 0, 0, 0), (.iinc 2 1, 3, 2, 0, 1), (.goto (-26), 3, 11, 0, 0)] (pc1 := 11) (lo1 := [some (.ref 47), some (.ref 50), some (.int ((nI k) + 1))]) (st1 := []) (μ1 := pm_set μ1 51 ((nI k).toNatClampNeg) (μ1.1 51 (nI (620 + k)).toNatClampNeg)) (vc := vp_in (nI (620 + k)) 4960 ∧ vp_in (nI k) 4960 ∧ True) rfl (by decide +kernel) rfl ⟨(vp_in_nI (by omega) (by omega)), (vp_in_nI (by omega) (by omega)), trivial⟩ ?_
    try rw [nI_clamp (n := k) (by omega)]
    rw [nI_1]; refine ih (k + 1) (by omega) _ ?_
    try rw [nI_clamp (n := k) (by omega)]
    try rw [nI_clamp (n := 620 + k) (by omega)]
    rw [hm, Nat.add_comm 620 k]
    exact lr_sft_s
set_option maxHeartbeats 4000000 in
set_option maxRecDepth 100000 in
theorem c_X10_changes_50 {c : Nat} (μ : pm_Mm) (hp : μ.1 47 5 = nI c) (hc : c ≤ 8) : pm_CT mi_X10_changes [.ref 47, .ref 50] μ (fun v μ2 => v = none ∧ μ2 = lr_chg μ 50) pm_NX := by
  rcases Nat.lt_or_ge c 8 with h8 | h8
  · exact c_X10_changes_50_lt μ hp h8
  obtain rfl : c = 8 := by omega
  refine pm_CT_of (lo := [some (.ref 47), some (.ref 50), none]) (by decide +kernel) rfl rfl (by intro v hv; simp at hv; rcases hv with rfl | rfl <;> rfl) (Nat.le_of_ble_eq_true rfl) rfl ?_
  refine pm_bl [(.aload_n 0, 1, 0, 0, 0), (.getfield 49, 3, 10, 5, 0)] (pc1 := 4) (lo1 := [some (.ref 47), some (.ref 50), none]) (st1 := [.int (μ.1 47 5)]) (μ1 := μ) (vc := True) rfl (by decide +kernel) rfl trivial ?_
  rw [hp]
  refine pm_bl [(.bipush 8, 2, 0, 0, 8)] (pc1 := 6) (lo1 := [some (.ref 47), some (.ref 50), none]) (st1 := [.int 8, .int (nI 8)]) (μ1 := μ) (vc := True) rfl (by decide +kernel) rfl trivial ?_
  refine pm_icmp_ne (off := 44) 50 (by decide +kernel) (by decide) (fun (h9 : ¬ (nI 8) = 8) => absurd (by decide) h9) (fun (h6 : (nI 8) = 8) => ?_)
  refine pm_bl [(.iconst 0, 1, 0, 0, 0), (.istore_n 2, 1, 2, 0, 0)] (pc1 := 11) (lo1 := [some (.ref 47), some (.ref 50), some (.int 0)]) (st1 := []) (μ1 := μ) (vc := True) rfl (by decide +kernel) rfl trivial ?_
  exact l_X10_changes_50 μ hp 4340 0 rfl μ (by rw [lr_sft_0, pm_row_self])
