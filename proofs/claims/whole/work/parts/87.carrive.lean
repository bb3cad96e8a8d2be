/-! the class: signs appended, the arrival of a text -/
set_option maxHeartbeats 4000000 in
set_option maxRecDepth 100000 in
theorem c_X1_put {n : Nat} (c : Int32) (hy : narrow .char (.int c) = .int c) (μ : pm_Mm) (hn : μ.1 40 0 = nI n) (hn2 : n < 40) : pm_CT mi_X1_put [.ref 40, .int c] μ (fun v μ2 => v = none ∧ μ2 = pm_set (pm_set μ 44 n c) 40 0 (nI (n + 1))) pm_NX := by
  refine pm_CT_of (lo := [some (.ref 40), some (.int c)]) (by decide +kernel) rfl rfl (by intro v hv; simp at hv; rcases hv with rfl | rfl <;> rfl) (Nat.le_of_ble_eq_true rfl) rfl ?_
  refine pm_bl [(.aload_n 0, 1, 0, 0, 0), (.getfield 9, 3, 1, 0, 0)] (pc1 := 4) (lo1 := [some (.ref 40), some (.int c)]) (st1 := [.int (μ.1 40 0)]) (μ1 := μ) (vc := True) rfl (by decide +kernel) rfl trivial ?_
  rw [show μ.1 40 0 = nI n from by first | exact hn | (rw [pm_set_off (by decide)]; exact hn)]
  refine pm_bl [(.bipush 40, 2, 0, 0, 40)] (pc1 := 6) (lo1 := [some (.ref 40), some (.int c)]) (st1 := [.int 40, .int (nI n)]) (μ1 := μ) (vc := True) rfl (by decide +kernel) rfl trivial ?_
  refine pm_icmp_ge (off := 23) 29 (by decide +kernel) (by decide) (fun (h9 : 40 ≤ (nI n)) => absurd h9 (nI_ge (b := 40) hn2 (by decide))) (fun (h6 : ¬ (40 ≤ (nI n))) => ?_)
  refine pm_bl [(.aload_n 0, 1, 0, 0, 0), (.getfield 28, 3, 1, 5, 0), (.aload_n 0, 1, 0, 0, 0), (.getfield 9, 3, 1, 0, 0)] (pc1 := 17) (lo1 := [some (.ref 40), some (.int c)]) (st1 := [.int (μ.1 40 0), .ref 44]) (μ1 := μ) (vc := True) rfl (by decide +kernel) rfl trivial ?_
  rw [show μ.1 40 0 = nI n from by first | exact hn | (rw [pm_set_off (by decide)]; exact hn)]
  refine pm_bl [(.iload_n 1, 1, 1, 0, 0)] (pc1 := 18) (lo1 := [some (.ref 40), some (.int c)]) (st1 := [.int c, .int (nI n), .ref 44]) (μ1 := μ) (vc := True) rfl (by decide +kernel) rfl trivial ?_
  refine pm_s_cast (r := 44) (n := 40) rfl (vp_in_nI hn2 (by decide)) (by decide +kernel) hy ?_
  rw [nI_clamp (n := n) (by omega)]
  refine pm_bl [(.aload_n 0, 1, 0, 0, 0), (.dup, 1, 0, 0, 0), (.getfield 9, 3, 1, 0, 0)] (pc1 := 24) (lo1 := [some (.ref 40), some (.int c)]) (st1 := [.int ((pm_set μ 44 n c).1 40 0), .ref 40]) (μ1 := pm_set μ 44 n c) (vc := True) rfl (by decide +kernel) rfl trivial ?_
  rw [show (pm_set μ 44 n c).1 40 0 = μ.1 40 0 from by simp [pm_set]]
  rw [show μ.1 40 0 = nI n from by first | exact hn | (rw [pm_set_off (by decide)]; exact hn)]
  refine pm_bl [(.iconst 1, 1, 0, 0, 1), (.iadd, 1, 0, 0, 0), (.putfield 9, 3, 1, 0, 0)] (pc1 := 29) (lo1 := [some (.ref 40), some (.int c)]) (st1 := []) (μ1 := pm_set (pm_set μ 44 n c) 40 0 ((nI n) + 1)) (vc := True) rfl (by decide +kernel) rfl trivial ?_
  exact pm_vret rfl (by decide) (by decide) (by decide +kernel) (⟨rfl, by rw [nI_1]⟩)
set_option maxHeartbeats 4000000 in
set_option maxRecDepth 100000 in
theorem c_X1_empty (μ : pm_Mm) : pm_CT mi_X1_empty [.ref 40] μ (fun v μ2 => v = none ∧ μ2 = pm_set μ 40 0 0) pm_NX := by
  refine pm_CT_of (lo := [some (.ref 40)]) (by decide +kernel) rfl rfl (by intro v hv; simp at hv; rcases hv with rfl <;> rfl) (Nat.le_of_ble_eq_true rfl) rfl ?_
  refine pm_bl [(.aload_n 0, 1, 0, 0, 0), (.iconst 0, 1, 0, 0, 0), (.putfield 9, 3, 1, 0, 0)] (pc1 := 5) (lo1 := [some (.ref 40)]) (st1 := []) (μ1 := pm_set μ 40 0 0) (vc := True) rfl (by decide +kernel) rfl trivial ?_
  exact pm_vret rfl (by decide) (by decide) (by decide +kernel) (⟨rfl, rfl⟩)
set_option maxHeartbeats 4000000 in
set_option maxRecDepth 100000 in
theorem c_X9_append_no (c : Int32) (μ : pm_Mm) (hn : μ.1 40 0 = 40) : pm_CT mi_X9_append [.ref 0, .int c] μ (fun _ _ => False) (fun E μ2 => E = "java/lang/IllegalStateException" ∧ μ2 = μ) := by
  refine pm_CT_of (lo := [some (.ref 0), some (.int c)]) (by decide +kernel) rfl rfl (by intro v hv; simp at hv; rcases hv with rfl | rfl <;> rfl) (Nat.le_of_ble_eq_true rfl) rfl ?_
  refine pm_bl [(.aload_n 0, 1, 0, 0, 0), (.getfield 33, 3, 9, 4, 0), (.getfield 248, 3, 1, 0, 0)] (pc1 := 7) (lo1 := [some (.ref 0), some (.int c)]) (st1 := [.int (μ.1 40 0)]) (μ1 := μ) (vc := True) rfl (by decide +kernel) rfl trivial ?_
  rw [hn]
  refine pm_bl [(.bipush 40, 2, 0, 0, 40)] (pc1 := 9) (lo1 := [some (.ref 0), some (.int c)]) (st1 := [.int 40, .int 40]) (μ1 := μ) (vc := True) rfl (by decide +kernel) rfl trivial ?_
  refine pm_icmp_lt (off := 13) 22 (by decide +kernel) (by decide) (fun h9 => absurd h9 (by decide)) (fun _ => ?_)
  exact pm_throw (is := 251) (tx := "the buffer contains 40 characters") pm_exIS rfl (by decide +kernel) rfl (by decide +kernel) (by decide +kernel) (by decide +kernel) (by decide +kernel) (by decide +kernel) (by decide) (by decide) (⟨rfl, rfl⟩)
set_option maxHeartbeats 4000000 in
set_option maxRecDepth 100000 in
theorem c_X9_append (c : Int32) (μ : pm_Mm) {n : Nat} (hy : narrow .char (.int c) = .int c) (hn : μ.1 40 0 = nI n) (hn2 : n < 40) : pm_CT mi_X9_append [.ref 0, .int c] μ (fun v μ2 => v = none ∧ μ2 = pm_set (pm_set μ 44 n c) 40 0 (nI (n + 1))) pm_NX := by
  refine pm_CT_of (lo := [some (.ref 0), some (.int c)]) (by decide +kernel) rfl rfl (by intro v hv; simp at hv; rcases hv with rfl | rfl <;> rfl) (Nat.le_of_ble_eq_true rfl) rfl ?_
  refine pm_bl [(.aload_n 0, 1, 0, 0, 0), (.getfield 33, 3, 9, 4, 0), (.getfield 248, 3, 1, 0, 0)] (pc1 := 7) (lo1 := [some (.ref 0), some (.int c)]) (st1 := [.int (μ.1 40 0)]) (μ1 := μ) (vc := True) rfl (by decide +kernel) rfl trivial ?_
  rw [hn]
  refine pm_bl [(.bipush 40, 2, 0, 0, 40)] (pc1 := 9) (lo1 := [some (.ref 0), some (.int c)]) (st1 := [.int 40, .int (nI n)]) (μ1 := μ) (vc := True) rfl (by decide +kernel) rfl trivial ?_
  refine pm_icmp_lt (off := 13) 22 (by decide +kernel) (by decide) (fun (h9 : (nI n) < 40) => ?_) (fun (h9 : ¬ ((nI n) < 40)) => absurd (nI_lt (b := 40) hn2 (by decide)) h9)
  refine pm_bl [(.aload_n 0, 1, 0, 0, 0), (.getfield 33, 3, 9, 4, 0), (.iload_n 1, 1, 1, 0, 0)] (pc1 := 27) (lo1 := [some (.ref 0), some (.int c)]) (st1 := [.int c, .ref 40]) (μ1 := μ) (vc := True) rfl (by decide +kernel) rfl trivial ?_
  refine pm_callV2 mi_X1_put (ix := 253) (b := 40) (ci := 1) (kc2 := 0) (ks2 := 0) (As := [.int c]) (rest := []) (c_X1_put c hy μ hn hn2) cal_X1_put lk9_253 (by decide +kernel) rfl (by decide +kernel) rfl rfl rfl rfl (Nat.le_of_ble_eq_true rfl) (by decide) (by decide) (fun _ _ h9 => h9.elim) ?_
  rintro _ _ ⟨rfl, h9⟩; rw [h9]; clear h9
  show pm_V _ _ _ _ 30 _ [] _
  exact pm_vret rfl (by decide) (by decide) (by decide +kernel) (⟨rfl, rfl⟩)
set_option maxHeartbeats 4000000 in
set_option maxRecDepth 100000 in
theorem l_X9_reason {g : Nat → Int32} {r : Int32} (μ : pm_Mm) (hR : lr_Rel μ.1 1 g) (hG : lr_G g) {N : Nat} (hk : μ.1 40 1 = nI N) (hN : N ≤ 13) : ∀ (L : List (Int32 × Int32 × Int32)) (k : Nat), k + L.length = N → lr_n g 289 + k ≤ 30 → (∀ i x, L[i]? = some x → μ.1 41 (k + i) = x.1) → r = (if lr_why (lr_n g 35) (lr_n g 289 + k) L = 0 then -1 else lr_why (lr_n g 35) (lr_n g 289 + k) L) → pm_V mi_X9_reasonAgainstText ((fun v μ2 => v = some (.int (r)) ∧ μ2 = μ), pm_NX, fun _ _ _ => True) 0 0 2 [some (.ref 0), some (.int (nI k))] [] μ := by
  have hm1 := lr_mh hG; have hm2 := lr_mw hG; have hm3 := lr_mp hG; have hm4 := lr_mr hG; have hm5 := lr_ma hG; have hm6 := lr_ml hG
  intro L
  induction L with
  | nil =>
    intro k hkN h30 ht hr
    obtain rfl : k = N := by simpa using hkN
    have hr1 : r = -1 := by rw [hr]; rfl
    refine pm_bl [(.iload_n 1, 1, 1, 0, 0), (.aload_n 0, 1, 0, 0, 0), (.getfield 33, 3, 9, 4, 0), (.getfield 269, 3, 1, 1, 0)] (pc1 := 10) (lo1 := [some (.ref 0), some (.int (nI k))]) (st1 := [.int (μ.1 40 1), .int (nI k)]) (μ1 := μ) (vc := True) rfl (by decide +kernel) rfl trivial ?_
    rw [hk]
    refine pm_icmp_ge (off := 55) 65 (by decide +kernel) (by decide) (fun (h10 : (nI k) ≤ (nI k)) => ?_) (fun (h9 : ¬ ((nI k) ≤ (nI k))) => absurd (nI_le (Nat.le_refl k) (by omega)) h9)
    refine pm_bl [(.iconst (-1), 1, 0, 0, (-1))] (pc1 := 66) (lo1 := [some (.ref 0), some (.int (nI k))]) (st1 := [.int (-1)]) (μ1 := μ) (vc := True) rfl (by decide +kernel) rfl trivial ?_
    exact pm_iret (ty := .int) rfl rfl (by decide) (by decide) (by decide +kernel) (⟨by rw [hr1], rfl⟩)
  | cons x L ih =>
    intro k hkN h30 ht hr
    rw [List.length_cons] at hkN
    have hx := ht 0 x rfl
    rw [Nat.add_zero] at hx
    have h3N : ¬ lr_n g 289 + k = 30 → lr_n g 289 + k < 30 := by omega
    have e0 : lr_why (lr_n g 35) (lr_n g 289 + k) (x :: L) = if lr_n g 289 + k = 30 then 1 else if lr_be x.1 (nI (lr_n g 35)) = false then 3 else lr_why (lr_n g 35) (lr_n g 289 + k + 1) L := rfl
    rw [e0] at hr
    by_cases h9x : lr_n g 289 + k = 30
    · rw [if_pos h9x] at hr
      refine pm_bl [(.iload_n 1, 1, 1, 0, 0), (.aload_n 0, 1, 0, 0, 0), (.getfield 33, 3, 9, 4, 0), (.getfield 269, 3, 1, 1, 0)] (pc1 := 10) (lo1 := [some (.ref 0), some (.int (nI k))]) (st1 := [.int (μ.1 40 1), .int (nI k)]) (μ1 := μ) (vc := True) rfl (by decide +kernel) rfl trivial ?_
      rw [hk]
      refine pm_icmp_ge (off := 55) 65 (by decide +kernel) (by decide) (fun (h9 : (nI N) ≤ (nI k)) => absurd h9 (nI_ge (by omega) (by omega))) (fun (h10 : ¬ ((nI N) ≤ (nI k))) => ?_)
      refine pm_bl [(.aload_n 0, 1, 0, 0, 0), (.getfield 10, 3, 9, 0, 0), (.getfield 235, 3, 5, 5, 0), (.getfield 239, 3, 4, 0, 0)] (pc1 := 23) (lo1 := [some (.ref 0), some (.int (nI k))]) (st1 := [.int (μ.1 26 0)]) (μ1 := μ) (vc := True) rfl (by decide +kernel) rfl trivial ?_
      rw [lr_rNl hR, lr_gl hG]
      refine pm_bl [(.iload_n 1, 1, 1, 0, 0), (.iadd, 1, 0, 0, 0), (.bipush 30, 2, 0, 0, 30)] (pc1 := 27) (lo1 := [some (.ref 0), some (.int (nI k))]) (st1 := [.int 30, .int ((nI (lr_n g 289)) + (nI k))]) (μ1 := μ) (vc := True) rfl (by decide +kernel) rfl trivial ?_
      refine pm_icmp_lt (off := 5) 32 (by decide +kernel) (by decide) (fun (h9 : ((nI (lr_n g 289)) + (nI k)) < 30) => absurd h9 (by rw [nI_add, h9x]; decide)) (fun (h27 : ¬ (((nI (lr_n g 289)) + (nI k)) < 30)) => ?_)
      refine pm_bl [(.iconst 1, 1, 0, 0, 1)] (pc1 := 31) (lo1 := [some (.ref 0), some (.int (nI k))]) (st1 := [.int 1]) (μ1 := μ) (vc := True) rfl (by decide +kernel) rfl trivial ?_
      exact pm_iret (ty := .int) rfl rfl (by decide) (by decide) (by decide +kernel) (⟨by rw [hr]; rfl, rfl⟩)
    · rw [if_neg h9x] at hr
      by_cases hb : lr_be x.1 (nI (lr_n g 35)) = true
      · refine pm_bl [(.iload_n 1, 1, 1, 0, 0), (.aload_n 0, 1, 0, 0, 0), (.getfield 33, 3, 9, 4, 0), (.getfield 269, 3, 1, 1, 0)] (pc1 := 10) (lo1 := [some (.ref 0), some (.int (nI k))]) (st1 := [.int (μ.1 40 1), .int (nI k)]) (μ1 := μ) (vc := True) rfl (by decide +kernel) rfl trivial ?_
        rw [hk]
        refine pm_icmp_ge (off := 55) 65 (by decide +kernel) (by decide) (fun (h9 : (nI N) ≤ (nI k)) => absurd h9 (nI_ge (by omega) (by omega))) (fun (h10 : ¬ ((nI N) ≤ (nI k))) => ?_)
        refine pm_bl [(.aload_n 0, 1, 0, 0, 0), (.getfield 10, 3, 9, 0, 0), (.getfield 235, 3, 5, 5, 0), (.getfield 239, 3, 4, 0, 0)] (pc1 := 23) (lo1 := [some (.ref 0), some (.int (nI k))]) (st1 := [.int (μ.1 26 0)]) (μ1 := μ) (vc := True) rfl (by decide +kernel) rfl trivial ?_
        rw [lr_rNl hR, lr_gl hG]
        refine pm_bl [(.iload_n 1, 1, 1, 0, 0), (.iadd, 1, 0, 0, 0), (.bipush 30, 2, 0, 0, 30)] (pc1 := 27) (lo1 := [some (.ref 0), some (.int (nI k))]) (st1 := [.int 30, .int ((nI (lr_n g 289)) + (nI k))]) (μ1 := μ) (vc := True) rfl (by decide +kernel) rfl trivial ?_
        refine pm_icmp_lt (off := 5) 32 (by decide +kernel) (by decide) (fun (h27 : ((nI (lr_n g 289)) + (nI k)) < 30) => ?_) (fun (h9 : ¬ (((nI (lr_n g 289)) + (nI k)) < 30)) => absurd (by rw [nI_add]; exact nI_lt (b := 30) (h3N h9x) (by decide)) h9)
        refine pm_bl [(.aload_n 0, 1, 0, 0, 0), (.getfield 33, 3, 9, 4, 0), (.getfield 271, 3, 1, 2, 0), (.iload_n 1, 1, 1, 0, 0), (.iaload, 1, 0, 0, 0), (.aload_n 0, 1, 0, 0, 0), (.getfield 10, 3, 9, 0, 0), (.getfield 90, 3, 5, 1, 0), (.getfield 94, 3, 6, 0, 0)] (pc1 := 51) (lo1 := [some (.ref 0), some (.int (nI k))]) (st1 := [.int (μ.1 5 0), .int (μ.1 41 (nI k).toNatClampNeg)]) (μ1 := μ) (vc := vp_in (nI k) 40 ∧ True) rfl (by decide +kernel) rfl ⟨(vp_in_nI (by omega) (by omega)), trivial⟩ ?_
        rw [nI_clamp (n := k) (by omega), hx]
        rw [lr_rNp hR, lr_gp hG]
        refine pm_callS2 mi_X9_isBelow (ix := 130) (kc2 := 0) (ks2 := 0) (As := [.int x.1, .int (nI (lr_n g 35))]) (rest := []) (c_X9_isBelow x.1 (nI (lr_n g 35)) μ) cal_X9_isBelow lk9_130 (by decide +kernel) rfl (by decide +kernel) rfl rfl (Nat.le_of_ble_eq_true rfl) (by decide) (by decide) (fun _ _ h9 => h9.elim) ?_
        rintro _ _ ⟨rfl, h9⟩; rw [h9]; clear h9
        show pm_V _ _ _ _ 54 _ [.int (lr_b (lr_be x.1 (nI (lr_n g 35))))] _
        refine pm_ifb_ne (off := 5) 59 (by decide +kernel) (by decide) (fun (h54 : (lr_be x.1 (nI (lr_n g 35))) = true) => ?_) (fun (h9 : (lr_be x.1 (nI (lr_n g 35))) = false) => absurd (hb.symm.trans h9) (by decide))
        refine pm_bl [(.iinc 1 1, 3, 1, 0, 1), (.goto (-60), 3, 2, 0, 0)] (pc1 := 2) (lo1 := [some (.ref 0), some (.int ((nI k) + 1))]) (st1 := []) (μ1 := μ) (vc := True) rfl (by decide +kernel) rfl trivial ?_
        rw [nI_1]
        refine ih (k + 1) (by omega) (by omega) (fun i y hy => by
          have := ht (i + 1) y (by rw [List.getElem?_cons_succ]; exact hy)
          rw [show k + 1 + i = k + (i + 1) from by omega]; exact this) (by have e2 : (if lr_be x.1 (nI (lr_n g 35)) = false then (3 : Int32) else lr_why (lr_n g 35) (lr_n g 289 + k + 1) L) = lr_why (lr_n g 35) (lr_n g 289 + k + 1) L := (if_neg (by rw [hb]; exact Bool.noConfusion)); rw [e2] at hr; exact hr)
      · refine pm_bl [(.iload_n 1, 1, 1, 0, 0), (.aload_n 0, 1, 0, 0, 0), (.getfield 33, 3, 9, 4, 0), (.getfield 269, 3, 1, 1, 0)] (pc1 := 10) (lo1 := [some (.ref 0), some (.int (nI k))]) (st1 := [.int (μ.1 40 1), .int (nI k)]) (μ1 := μ) (vc := True) rfl (by decide +kernel) rfl trivial ?_
        rw [hk]
        refine pm_icmp_ge (off := 55) 65 (by decide +kernel) (by decide) (fun (h9 : (nI N) ≤ (nI k)) => absurd h9 (nI_ge (by omega) (by omega))) (fun (h10 : ¬ ((nI N) ≤ (nI k))) => ?_)
        refine pm_bl [(.aload_n 0, 1, 0, 0, 0), (.getfield 10, 3, 9, 0, 0), (.getfield 235, 3, 5, 5, 0), (.getfield 239, 3, 4, 0, 0)] (pc1 := 23) (lo1 := [some (.ref 0), some (.int (nI k))]) (st1 := [.int (μ.1 26 0)]) (μ1 := μ) (vc := True) rfl (by decide +kernel) rfl trivial ?_
        rw [lr_rNl hR, lr_gl hG]
        refine pm_bl [(.iload_n 1, 1, 1, 0, 0), (.iadd, 1, 0, 0, 0), (.bipush 30, 2, 0, 0, 30)] (pc1 := 27) (lo1 := [some (.ref 0), some (.int (nI k))]) (st1 := [.int 30, .int ((nI (lr_n g 289)) + (nI k))]) (μ1 := μ) (vc := True) rfl (by decide +kernel) rfl trivial ?_
        refine pm_icmp_lt (off := 5) 32 (by decide +kernel) (by decide) (fun (h27 : ((nI (lr_n g 289)) + (nI k)) < 30) => ?_) (fun (h9 : ¬ (((nI (lr_n g 289)) + (nI k)) < 30)) => absurd (by rw [nI_add]; exact nI_lt (b := 30) (h3N h9x) (by decide)) h9)
        refine pm_bl [(.aload_n 0, 1, 0, 0, 0), (.getfield 33, 3, 9, 4, 0), (.getfield 271, 3, 1, 2, 0), (.iload_n 1, 1, 1, 0, 0), (.iaload, 1, 0, 0, 0), (.aload_n 0, 1, 0, 0, 0), (.getfield 10, 3, 9, 0, 0), (.getfield 90, 3, 5, 1, 0), (.getfield 94, 3, 6, 0, 0)] (pc1 := 51) (lo1 := [some (.ref 0), some (.int (nI k))]) (st1 := [.int (μ.1 5 0), .int (μ.1 41 (nI k).toNatClampNeg)]) (μ1 := μ) (vc := vp_in (nI k) 40 ∧ True) rfl (by decide +kernel) rfl ⟨(vp_in_nI (by omega) (by omega)), trivial⟩ ?_
        rw [nI_clamp (n := k) (by omega), hx]
        rw [lr_rNp hR, lr_gp hG]
        refine pm_callS2 mi_X9_isBelow (ix := 130) (kc2 := 0) (ks2 := 0) (As := [.int x.1, .int (nI (lr_n g 35))]) (rest := []) (c_X9_isBelow x.1 (nI (lr_n g 35)) μ) cal_X9_isBelow lk9_130 (by decide +kernel) rfl (by decide +kernel) rfl rfl (Nat.le_of_ble_eq_true rfl) (by decide) (by decide) (fun _ _ h9 => h9.elim) ?_
        rintro _ _ ⟨rfl, h9⟩; rw [h9]; clear h9
        show pm_V _ _ _ _ 54 _ [.int (lr_b (lr_be x.1 (nI (lr_n g 35))))] _
        refine pm_ifb_ne (off := 5) 59 (by decide +kernel) (by decide) (fun (h9 : (lr_be x.1 (nI (lr_n g 35))) = true) => absurd h9 hb) (fun (h54 : (lr_be x.1 (nI (lr_n g 35))) = false) => ?_)
        refine pm_bl [(.iconst 3, 1, 0, 0, 3)] (pc1 := 58) (lo1 := [some (.ref 0), some (.int (nI k))]) (st1 := [.int 3]) (μ1 := μ) (vc := True) rfl (by decide +kernel) rfl trivial ?_
        exact pm_iret (ty := .int) rfl rfl (by decide) (by decide) (by decide +kernel) (⟨by have e2 : (if lr_be x.1 (nI (lr_n g 35)) = false then (3 : Int32) else lr_why (lr_n g 35) (lr_n g 289 + k + 1) L) = 3 := if_pos (by rw [Bool.not_eq_true] at hb; exact hb); rw [e2] at hr; rw [hr]; rfl, rfl⟩)
set_option maxHeartbeats 4000000 in
set_option maxRecDepth 100000 in
theorem c_X9_reason {g : Nat → Int32} {L : List (Int32 × Int32 × Int32)} (μ : pm_Mm) (hR : lr_Rel μ.1 1 g) (hG : lr_G g) (hk : μ.1 40 1 = nI L.length) (hN : L.length ≤ 13) (hT : lr_Tc μ.1 L) : pm_CT mi_X9_reasonAgainstText [.ref 0] μ (fun v μ2 => v = some (.int ((if lr_why (lr_n g 35) (lr_n g 289) L = 0 then -1 else lr_why (lr_n g 35) (lr_n g 289) L))) ∧ μ2 = μ) pm_NX := by
  refine pm_CT_of (lo := [some (.ref 0), none]) (by decide +kernel) rfl rfl (by intro v hv; simp at hv; rcases hv with rfl <;> rfl) (Nat.le_of_ble_eq_true rfl) rfl ?_
  have m6 := lr_ml hG
  refine pm_bl [(.iconst 0, 1, 0, 0, 0), (.istore_n 1, 1, 1, 0, 0)] (pc1 := 2) (lo1 := [some (.ref 0), some (.int 0)]) (st1 := []) (μ1 := μ) (vc := True) rfl (by decide +kernel) rfl trivial ?_
  exact l_X9_reason μ hR hG hk hN L 0 (Nat.zero_add _) (by omega) (fun i x hx => by rw [Nat.zero_add]; exact (hT i x hx).1) rfl
theorem lr_Rel.fk {μ μ2 : pm_Mm} {g : Nat → Int32} (hR : lr_Rel μ.1 1 g) (hF : lr_Fk μ 0 μ2) : lr_Rel μ2.1 1 g := hR.fr (fun i h1 h2 => funext fun j => hF.1 i j (by omega) (by omega))
theorem lr_Rel.s0 {μ : pm_Mm} {g : Nat → Int32} {r k : Nat} {v : Int32} (hR : lr_Rel μ.1 1 g) (hr : r = 0 ∨ 39 < r) : lr_Rel (pm_set μ r k v).1 1 g := hR.fr (fun i h1 h2 => pm_set_off (by omega))
theorem lr_Hs.fk {μ μ2 : pm_Mm} {c n : Nat} {F : Nat → Nat → Int32} (h : lr_Hs μ.1 c n F) (hF : lr_Fk μ 0 μ2) : lr_Hs μ2.1 c n F := h.fr (fun i hi => funext fun j => hF.1 i j (by omega) (by omega))
theorem lr_Hs.s0 {μ : pm_Mm} {c n r k : Nat} {v : Int32} {F : Nat → Nat → Int32} (h : lr_Hs μ.1 c n F) (hr : r ≠ 45 ∧ r ≤ 95) : lr_Hs (pm_set μ r k v).1 c n F := h.fr (fun i hi => pm_set_off (by omega))
set_option maxHeartbeats 4000000 in
set_option maxRecDepth 100000 in
theorem c_X9_arrive_f {t : Nat → Int32} {n : Nat} (μ : pm_Mm) (h0 : μ.1 40 0 = nI n) (hn : n ≤ 40) (ht : ∀ i, i < n → μ.1 44 i = t i) (hRd : ¬ (lr_rd t n 40 0 []).1 = -1) : pm_CT mi_X9_arrive [.ref 0] μ (fun _ _ => False) (fun E μ2 => E = "java/lang/IllegalArgumentException" ∧ ∃ M, lr_Fk μ 0 M ∧ μ2 = pm_set (pm_set M 0 5 (lr_rd t n 40 0 []).1) 40 0 0) := by
  refine pm_CT_of (lo := [some (.ref 0), none, none]) (by decide +kernel) rfl rfl (by intro v hv; simp at hv; rcases hv with rfl <;> rfl) (Nat.le_of_ble_eq_true rfl) rfl ?_
  refine pm_bl [(.aload_n 0, 1, 0, 0, 0), (.aload_n 0, 1, 0, 0, 0), (.getfield 33, 3, 9, 4, 0)] (pc1 := 5) (lo1 := [some (.ref 0), none, none]) (st1 := [.ref 40, .ref 0]) (μ1 := μ) (vc := True) rfl (by decide +kernel) rfl trivial ?_
  refine pm_callV2 mi_X1_read (ix := 257) (b := 40) (ci := 1) (kc2 := 0) (ks2 := 0) (As := []) (rest := [.ref 0]) (c_X1_read (t := t) (n := n) μ h0 hn ht) cal_X1_read lk9_257 (by decide +kernel) rfl (by decide +kernel) rfl rfl rfl rfl (Nat.le_of_ble_eq_true rfl) (by decide) (by decide) (fun _ _ h9 => h9.elim) ?_
  rintro _ μ3 ⟨rfl, hF, hO⟩
  show pm_V _ _ _ _ 8 _ [.int ((lr_rd t n 40 0 []).1), .ref 0] _
  refine pm_bl [(.putfield 37, 3, 9, 5, 0), (.aload_n 0, 1, 0, 0, 0), (.getfield 33, 3, 9, 4, 0)] (pc1 := 15) (lo1 := [some (.ref 0), none, none]) (st1 := [.ref 40]) (μ1 := pm_set μ3 0 5 ((lr_rd t n 40 0 []).1)) (vc := True) rfl (by decide +kernel) rfl trivial ?_
  refine pm_callV2 mi_X1_empty (ix := 261) (b := 40) (ci := 1) (kc2 := 0) (ks2 := 0) (As := []) (rest := []) (c_X1_empty (pm_set μ3 0 5 ((lr_rd t n 40 0 []).1))) cal_X1_empty lk9_261 (by decide +kernel) rfl (by decide +kernel) rfl rfl rfl rfl (Nat.le_of_ble_eq_true rfl) (by decide) (by decide) (fun _ _ h9 => h9.elim) ?_
  rintro _ _ ⟨rfl, h9⟩; rw [h9]; clear h9
  show pm_V _ _ _ _ 18 _ [] _
  refine pm_bl [(.aload_n 0, 1, 0, 0, 0), (.getfield 37, 3, 9, 5, 0)] (pc1 := 22) (lo1 := [some (.ref 0), none, none]) (st1 := [.int ((pm_set (pm_set μ3 0 5 ((lr_rd t n 40 0 []).1)) 40 0 0).1 0 5)]) (μ1 := pm_set (pm_set μ3 0 5 ((lr_rd t n 40 0 []).1)) 40 0 0) (vc := True) rfl (by decide +kernel) rfl trivial ?_
  rw [show (pm_set (pm_set μ3 0 5 ((lr_rd t n 40 0 []).1)) 40 0 0).1 0 5 = (lr_rd t n 40 0 []).1 from by rw [pm_set_off (by decide), pm_set_hit]]
  refine pm_bl [(.iconst (-1), 1, 0, 0, (-1))] (pc1 := 23) (lo1 := [some (.ref 0), none, none]) (st1 := [.int (-1), .int ((lr_rd t n 40 0 []).1)]) (μ1 := pm_set (pm_set μ3 0 5 ((lr_rd t n 40 0 []).1)) 40 0 0) (vc := True) rfl (by decide +kernel) rfl trivial ?_
  refine pm_icmp_eq (off := 14) 37 (by decide +kernel) (by decide) (fun (h9 : ((lr_rd t n 40 0 []).1) = (-1)) => absurd h9 hRd) (fun (h23 : ¬ (((lr_rd t n 40 0 []).1) = (-1))) => ?_)
  exact pm_throwW (is := 264) (tx := "the text has a fault") pm_exIA rfl (by decide +kernel) rfl (by decide +kernel) (by decide +kernel) (by decide +kernel) (by decide +kernel) (by decide +kernel) (by decide) (by decide) (⟨rfl, μ3, hF, rfl⟩)
theorem lr_why_ne {np : Nat} : ∀ (L : List (Int32 × Int32 × Int32)) (c : Nat), lr_why np c L = 0 ∨ lr_why np c L = 1 ∨ lr_why np c L = 3 := by
  intro L
  induction L with
  | nil => intro c; exact Or.inl rfl
  | cons x L ih =>
    intro c; simp only [lr_why]
    split
    · exact Or.inr (Or.inl rfl)
    split
    · exact Or.inr (Or.inr rfl)
    · exact ih _
set_option maxHeartbeats 4000000 in
set_option maxRecDepth 100000 in
theorem c_X9_arrive_r {g : Nat → Int32} {t : Nat → Int32} {n : Nat} (μ : pm_Mm) (h0 : μ.1 40 0 = nI n) (hn : n ≤ 40) (ht : ∀ i, i < n → μ.1 44 i = t i) (hRd : (lr_rd t n 40 0 []).1 = -1) (hR : lr_Rel μ.1 1 g) (hG : lr_G g) (hw : ¬ lr_why (lr_n g 35) (lr_n g 289) (lr_rd t n 40 0 []).2 = 0) : pm_CT mi_X9_arrive [.ref 0] μ (fun _ _ => False) (fun E μ2 => E = "java/lang/UnsupportedOperationException" ∧ ∃ M, lr_Fk μ 0 M ∧ μ2 = pm_set (pm_set (pm_set M 0 5 (-1)) 40 0 0) 0 6 (lr_why (lr_n g 35) (lr_n g 289) (lr_rd t n 40 0 []).2)) := by
  refine pm_CT_of (lo := [some (.ref 0), none, none]) (by decide +kernel) rfl rfl (by intro v hv; simp at hv; rcases hv with rfl <;> rfl) (Nat.le_of_ble_eq_true rfl) rfl ?_
  refine pm_bl [(.aload_n 0, 1, 0, 0, 0), (.aload_n 0, 1, 0, 0, 0), (.getfield 33, 3, 9, 4, 0)] (pc1 := 5) (lo1 := [some (.ref 0), none, none]) (st1 := [.ref 40, .ref 0]) (μ1 := μ) (vc := True) rfl (by decide +kernel) rfl trivial ?_
  refine pm_callV2 mi_X1_read (ix := 257) (b := 40) (ci := 1) (kc2 := 0) (ks2 := 0) (As := []) (rest := [.ref 0]) (c_X1_read (t := t) (n := n) μ h0 hn ht) cal_X1_read lk9_257 (by decide +kernel) rfl (by decide +kernel) rfl rfl rfl rfl (Nat.le_of_ble_eq_true rfl) (by decide) (by decide) (fun _ _ h9 => h9.elim) ?_
  rintro _ μ3 ⟨rfl, hF, hO⟩
  obtain ⟨q1, q2, q3⟩ := hO hRd
  rw [hRd]
  show pm_V _ _ _ _ 8 _ [.int (-1), .ref 0] _
  refine pm_bl [(.putfield 37, 3, 9, 5, 0), (.aload_n 0, 1, 0, 0, 0), (.getfield 33, 3, 9, 4, 0)] (pc1 := 15) (lo1 := [some (.ref 0), none, none]) (st1 := [.ref 40]) (μ1 := pm_set μ3 0 5 (-1)) (vc := True) rfl (by decide +kernel) rfl trivial ?_
  refine pm_callV2 mi_X1_empty (ix := 261) (b := 40) (ci := 1) (kc2 := 0) (ks2 := 0) (As := []) (rest := []) (c_X1_empty (pm_set μ3 0 5 (-1))) cal_X1_empty lk9_261 (by decide +kernel) rfl (by decide +kernel) rfl rfl rfl rfl (Nat.le_of_ble_eq_true rfl) (by decide) (by decide) (fun _ _ h9 => h9.elim) ?_
  rintro _ _ ⟨rfl, h9⟩; rw [h9]; clear h9
  show pm_V _ _ _ _ 18 _ [] _
  refine pm_bl [(.aload_n 0, 1, 0, 0, 0), (.getfield 37, 3, 9, 5, 0)] (pc1 := 22) (lo1 := [some (.ref 0), none, none]) (st1 := [.int ((pm_set (pm_set μ3 0 5 (-1)) 40 0 0).1 0 5)]) (μ1 := pm_set (pm_set μ3 0 5 (-1)) 40 0 0) (vc := True) rfl (by decide +kernel) rfl trivial ?_
  rw [show (pm_set (pm_set μ3 0 5 (-1)) 40 0 0).1 0 5 = -1 from by rw [pm_set_off (by decide), pm_set_hit]]
  refine pm_bl [(.iconst (-1), 1, 0, 0, (-1))] (pc1 := 23) (lo1 := [some (.ref 0), none, none]) (st1 := [.int (-1), .int (-1)]) (μ1 := pm_set (pm_set μ3 0 5 (-1)) 40 0 0) (vc := True) rfl (by decide +kernel) rfl trivial ?_
  refine pm_icmp_eq (off := 14) 37 (by decide +kernel) (by decide) (fun _ => ?_) (fun h9 => absurd h9 (by decide))
  refine pm_bl [(.aload_n 0, 1, 0, 0, 0)] (pc1 := 38) (lo1 := [some (.ref 0), none, none]) (st1 := [.ref 0]) (μ1 := pm_set (pm_set μ3 0 5 (-1)) 40 0 0) (vc := True) rfl (by decide +kernel) rfl trivial ?_
  refine pm_callV2 mi_X9_reasonAgainstText (ix := 266) (b := 0) (ci := 9) (kc2 := 0) (ks2 := 0) (As := []) (rest := []) (c_X9_reason (L := (lr_rd t n 40 0 []).2) (pm_set (pm_set μ3 0 5 (-1)) 40 0 0) ((hR.fk hF).s0 (Or.inl rfl) |>.s0 (Or.inr (by decide))) hG (by rw [pm_set_miss (Or.inr (by decide)), pm_set_off (by decide)]; exact q1) q3 (fun i x hx => by rw [pm_set_off (by decide), pm_set_off (by decide), pm_set_off (by decide), pm_set_off (by decide), pm_set_off (by decide), pm_set_off (by decide)]; exact q2 i x hx)) cal_X9_reasonAgainstText lk9_266 (by decide +kernel) rfl (by decide +kernel) rfl rfl rfl rfl (Nat.le_of_ble_eq_true rfl) (by decide) (by decide) (fun _ _ h9 => h9.elim) ?_
  rintro _ _ ⟨rfl, h9⟩; rw [h9]; clear h9
  rw [if_neg hw]
  show pm_V _ _ _ _ 41 _ [.int (lr_why (lr_n g 35) (lr_n g 289) (lr_rd t n 40 0 []).2)] _
  refine pm_bl [(.istore_n 1, 1, 1, 0, 0), (.iload_n 1, 1, 1, 0, 0), (.iconst (-1), 1, 0, 0, (-1))] (pc1 := 44) (lo1 := [some (.ref 0), some (.int (lr_why (lr_n g 35) (lr_n g 289) (lr_rd t n 40 0 []).2)), none]) (st1 := [.int (-1), .int (lr_why (lr_n g 35) (lr_n g 289) (lr_rd t n 40 0 []).2)]) (μ1 := pm_set (pm_set μ3 0 5 (-1)) 40 0 0) (vc := True) rfl (by decide +kernel) rfl trivial ?_
  refine pm_icmp_eq (off := 8) 52 (by decide +kernel) (by decide) (fun (h9 : (lr_why (lr_n g 35) (lr_n g 289) (lr_rd t n 40 0 []).2) = (-1)) => absurd h9 (by rcases lr_why_ne (np := lr_n g 35) (lr_rd t n 40 0 []).2 (lr_n g 289) with e | e | e; exact absurd e hw; rw [e]; decide; rw [e]; decide)) (fun (h44 : ¬ ((lr_why (lr_n g 35) (lr_n g 289) (lr_rd t n 40 0 []).2) = (-1))) => ?_)
  refine pm_bl [(.aload_n 0, 1, 0, 0, 0), (.iload_n 1, 1, 1, 0, 0)] (pc1 := 49) (lo1 := [some (.ref 0), some (.int (lr_why (lr_n g 35) (lr_n g 289) (lr_rd t n 40 0 []).2)), none]) (st1 := [.int (lr_why (lr_n g 35) (lr_n g 289) (lr_rd t n 40 0 []).2), .ref 0]) (μ1 := pm_set (pm_set μ3 0 5 (-1)) 40 0 0) (vc := True) rfl (by decide +kernel) rfl trivial ?_
  refine pm_callV2 mi_X9_refuse (ix := 165) (b := 0) (ci := 9) (kc2 := 1) (ks2 := 6) (As := [.int (lr_why (lr_n g 35) (lr_n g 289) (lr_rd t n 40 0 []).2)]) (rest := []) (c_X9_refuse (lr_why (lr_n g 35) (lr_n g 289) (lr_rd t n 40 0 []).2) (pm_set (pm_set μ3 0 5 (-1)) 40 0 0)) cal_X9_refuse lk9_165 (by decide +kernel) rfl (by decide +kernel) rfl rfl rfl rfl (Nat.le_of_ble_eq_true rfl) (by decide) (by decide) (fun E μ9 h9 => ⟨h9.1, μ3, hF, h9.2⟩) ?_
  rintro _ _ h9; exact h9.elim
set_option maxHeartbeats 4000000 in
set_option maxRecDepth 100000 in
theorem s_X9_arrive {g : Nat → Int32} {k N : Nat} {x : Int32 × Int32 × Int32} (P : Option Value → pm_Mm → Prop) (μ : pm_Mm) (hR : lr_Rel μ.1 1 g) (hG : lr_G g) (hk : μ.1 40 1 = nI N) (hkN : k < N) (hN : N ≤ 13) (h1 : μ.1 41 k = x.1) (h2 : μ.1 42 k = x.2.1) (h3 : μ.1 43 k = x.2.2) (hlt : lr_n g 289 < 30) (K : ∀ μ2, lr_fr μ μ2 → lr_Rel μ2.1 1 (lr_glet g x.1 x.2.1 x.2.2 (g 0)) → pm_V mi_X9_arrive (P, pm_NX, fun _ _ _ => True) 0 0 65 [some (.ref 0), some (.int (-1)), some (.int (nI (k + 1)))] [] μ2) : pm_V mi_X9_arrive (P, pm_NX, fun _ _ _ => True) 0 0 65 [some (.ref 0), some (.int (-1)), some (.int (nI k))] [] μ := by
  refine pm_bl [(.iload_n 2, 1, 2, 0, 0), (.aload_n 0, 1, 0, 0, 0), (.getfield 33, 3, 9, 4, 0), (.getfield 269, 3, 1, 1, 0)] (pc1 := 73) (lo1 := [some (.ref 0), some (.int (-1)), some (.int (nI k))]) (st1 := [.int (μ.1 40 1), .int (nI k)]) (μ1 := μ) (vc := True) rfl (by decide +kernel) rfl trivial ?_
  rw [hk]
  refine pm_icmp_ge (off := 54) 127 (by decide +kernel) (by decide) (fun (h9 : (nI N) ≤ (nI k)) => absurd h9 (nI_ge hkN (by omega))) (fun (h73 : ¬ ((nI N) ≤ (nI k))) => ?_)
  refine pm_bl [(.aload_n 0, 1, 0, 0, 0), (.getfield 10, 3, 9, 0, 0), (.getfield 235, 3, 5, 5, 0), (.aload_n 0, 1, 0, 0, 0), (.getfield 33, 3, 9, 4, 0), (.getfield 271, 3, 1, 2, 0), (.iload_n 2, 1, 2, 0, 0), (.iaload, 1, 0, 0, 0)] (pc1 := 92) (lo1 := [some (.ref 0), some (.int (-1)), some (.int (nI k))]) (st1 := [.int (μ.1 41 (nI k).toNatClampNeg), .ref 26]) (μ1 := μ) (vc := vp_in (nI k) 40 ∧ True) rfl (by decide +kernel) rfl ⟨(vp_in_nI (by omega) (by omega)), trivial⟩ ?_
  rw [nI_clamp (n := k) (by omega), h1]
  refine pm_bl [(.aload_n 0, 1, 0, 0, 0), (.getfield 33, 3, 9, 4, 0), (.getfield 274, 3, 1, 3, 0), (.iload_n 2, 1, 2, 0, 0), (.iaload, 1, 0, 0, 0)] (pc1 := 101) (lo1 := [some (.ref 0), some (.int (-1)), some (.int (nI k))]) (st1 := [.int (μ.1 42 (nI k).toNatClampNeg), .int x.1, .ref 26]) (μ1 := μ) (vc := vp_in (nI k) 40 ∧ True) rfl (by decide +kernel) rfl ⟨(vp_in_nI (by omega) (by omega)), trivial⟩ ?_
  rw [nI_clamp (n := k) (by omega), h2]
  refine pm_bl [(.aload_n 0, 1, 0, 0, 0), (.getfield 33, 3, 9, 4, 0), (.getfield 277, 3, 1, 4, 0), (.iload_n 2, 1, 2, 0, 0), (.iaload, 1, 0, 0, 0)] (pc1 := 110) (lo1 := [some (.ref 0), some (.int (-1)), some (.int (nI k))]) (st1 := [.int (μ.1 43 (nI k).toNatClampNeg), .int x.2.1, .int x.1, .ref 26]) (μ1 := μ) (vc := vp_in (nI k) 40 ∧ True) rfl (by decide +kernel) rfl ⟨(vp_in_nI (by omega) (by omega)), trivial⟩ ?_
  rw [nI_clamp (n := k) (by omega), h3]
  refine pm_bl [(.aload_n 0, 1, 0, 0, 0), (.getfield 10, 3, 9, 0, 0), (.getfield 242, 3, 5, 6, 0)] (pc1 := 117) (lo1 := [some (.ref 0), some (.int (-1)), some (.int (nI k))]) (st1 := [.int (μ.1 1 6), .int x.2.2, .int x.2.1, .int x.1, .ref 26]) (μ1 := μ) (vc := True) rfl (by decide +kernel) rfl trivial ?_
  rw [lr_rT hR]
  refine pm_callV2 mi_X4_add (ix := 245) (b := 26) (ci := 4) (kc2 := 0) (ks2 := 0) (As := [.int x.1, .int x.2.1, .int x.2.2, .int (g 0)]) (rest := []) (c_X4_add x.1 x.2.1 x.2.2 (g 0) μ hR hG.B (lr_gl hG) hlt) cal_X4_add lk9_245 (by decide +kernel) rfl (by decide +kernel) rfl rfl rfl rfl (Nat.le_of_ble_eq_true rfl) (by decide) (by decide) (fun _ _ h9 => h9.elim) ?_
  rintro _ μ3 ⟨rfl, hf3, hR3⟩
  show pm_V _ _ _ _ 120 _ [.int (nI (lr_n g 289))] _
  refine pm_bl [(.pop, 1, 0, 0, 0), (.iinc 2 1, 3, 2, 0, 1), (.goto (-59), 3, 65, 0, 0)] (pc1 := 65) (lo1 := [some (.ref 0), some (.int (-1)), some (.int ((nI k) + 1))]) (st1 := []) (μ1 := μ3) (vc := True) rfl (by decide +kernel) rfl trivial ?_
  rw [nI_1]; exact K μ3 hf3 hR3
theorem lr_why_t {np c : Nat} {x : Int32 × Int32 × Int32} {L : List (Int32 × Int32 × Int32)} (h : lr_why np c (x :: L) = 0) : ¬ c = 30 ∧ lr_be x.1 (nI np) = true ∧ lr_why np (c + 1) L = 0 := by
  simp only [lr_why] at h
  by_cases e : c = 30
  · rw [if_pos e] at h; exact absurd h (by decide)
  · rw [if_neg e] at h
    by_cases b : lr_be x.1 (nI np) = false
    · rw [if_pos b] at h; exact absurd h (by decide)
    · rw [if_neg b] at h; rw [Bool.not_eq_false] at b; exact ⟨e, b, h⟩
set_option maxHeartbeats 4000000 in
set_option maxRecDepth 100000 in
theorem l_X9_arrive {N c n : Nat} {F : Nat → Nat → Int32} {g9 : Nat → Int32} {μ0 : pm_Mm} (P : Option Value → pm_Mm → Prop) (hP : ∀ μ2, lr_fc μ0 μ2 → lr_Rel μ2.1 1 g9 → lr_Hs μ2.1 c n F → P (some (.int (nI N))) μ2) (hN : N ≤ 13) (hk : μ0.1 40 1 = nI N) : ∀ (L : List (Int32 × Int32 × Int32)) (k : Nat) (g : Nat → Int32) (μ1 : pm_Mm), k + L.length = N → lr_fc μ0 μ1 → lr_Rel μ1.1 1 g → lr_G g → lr_Hs μ1.1 c n F → (∀ i x, L[i]? = some x → μ0.1 41 (k + i) = x.1 ∧ μ0.1 42 (k + i) = x.2.1 ∧ μ0.1 43 (k + i) = x.2.2) → (∀ x, x ∈ L → lr_Lk x) → lr_why (lr_n g 35) (lr_n g 289) L = 0 → g9 = lr_adds g L → pm_V mi_X9_arrive (P, pm_NX, fun _ _ _ => True) 0 0 65 [some (.ref 0), some (.int (-1)), some (.int (nI k))] [] μ1 := by
  intro L
  induction L with
  | nil =>
    intro k g μ1 hkN hf hR hG hH ht hL hw h9
    obtain rfl : k = N := by simpa using hkN
    have hk1 : μ1.1 40 1 = nI k := by rw [hf.1 40 (by omega)]; exact hk
    refine pm_bl [(.iload_n 2, 1, 2, 0, 0), (.aload_n 0, 1, 0, 0, 0), (.getfield 33, 3, 9, 4, 0), (.getfield 269, 3, 1, 1, 0)] (pc1 := 73) (lo1 := [some (.ref 0), some (.int (-1)), some (.int (nI k))]) (st1 := [.int (μ1.1 40 1), .int (nI k)]) (μ1 := μ1) (vc := True) rfl (by decide +kernel) rfl trivial ?_
    rw [hk1]
    refine pm_icmp_ge (off := 54) 127 (by decide +kernel) (by decide) (fun (h73 : (nI k) ≤ (nI k)) => ?_) (fun (h90 : ¬ ((nI k) ≤ (nI k))) => absurd (nI_le (Nat.le_refl k) (by omega)) h90)
    refine pm_bl [(.aload_n 0, 1, 0, 0, 0), (.getfield 33, 3, 9, 4, 0), (.getfield 269, 3, 1, 1, 0)] (pc1 := 134) (lo1 := [some (.ref 0), some (.int (-1)), some (.int (nI k))]) (st1 := [.int (μ1.1 40 1)]) (μ1 := μ1) (vc := True) rfl (by decide +kernel) rfl trivial ?_
    rw [hk1]
    exact pm_iret (ty := .int) rfl rfl (by decide) (by decide) (by decide +kernel) (hP _ hf (by rw [h9]; exact hR) hH)
  | cons x L ih =>
    intro k g μ1 hkN hf hR hG hH ht hL hw h9
    rw [List.length_cons] at hkN
    have m6 := lr_ml hG
    obtain ⟨w1, w2, w3⟩ := lr_why_t hw
    obtain ⟨t0, t1, t2⟩ := ht 0 x rfl
    rw [Nat.add_zero] at t0 t1 t2
    refine s_X9_arrive (N := N) (x := x) _ μ1 hR hG (by rw [hf.1 40 (by omega)]; exact hk) (by omega) hN (by rw [hf.1 41 (by omega)]; exact t0) (by rw [hf.1 42 (by omega)]; exact t1) (by rw [hf.1 43 (by omega)]; exact t2) (by omega) (fun μ2 hf2 hR2 => ?_)
    have hG2 := lr_glet_ok hG (by omega) w2 (hL x (List.mem_cons_self ..))
    refine ih (k + 1) _ μ2 (by omega) (hf.tr hf2) hR2 hG2 (hH.fr (fun i hi => hf2.1 i (by omega))) (fun i y hy => by
      have := ht (i + 1) y (by rw [List.getElem?_cons_succ]; exact hy)
      rw [show k + 1 + i = k + (i + 1) from by omega]; exact this) (fun y hy => hL y (List.mem_cons_of_mem _ hy)) ?_ h9
    rw [lr_glet_n (by omega), show lr_n (lr_glet g x.1 x.2.1 x.2.2 (g 0)) 35 = lr_n g 35 from by unfold lr_n; rw [lr_glet_o (by omega) (by omega)]]
    exact w3
set_option maxHeartbeats 4000000 in
set_option maxRecDepth 100000 in
theorem c_X9_arrive {g : Nat → Int32} {c n9 : Nat} {F : Nat → Nat → Int32} {t : Nat → Int32} {n : Nat} (μ : pm_Mm) (h0 : μ.1 40 0 = nI n) (hn : n ≤ 40) (ht : ∀ i, i < n → μ.1 44 i = t i) (hRd : (lr_rd t n 40 0 []).1 = -1) (hR : lr_Rel μ.1 1 g) (hG : lr_G g) (hH : lr_Hs μ.1 c n9 F) (hL : ∀ x, x ∈ (lr_rd t n 40 0 []).2 → lr_Lk x) (hw : lr_why (lr_n g 35) (lr_n g 289) (lr_rd t n 40 0 []).2 = 0) : pm_CT mi_X9_arrive [.ref 0] μ (fun v μ2 => v = some (.int (nI (lr_rd t n 40 0 []).2.length)) ∧ ∃ M, lr_Fk μ 0 M ∧ lr_fc (pm_set (pm_set M 0 5 (-1)) 40 0 0) μ2 ∧ lr_Rel μ2.1 1 (lr_adds g (lr_rd t n 40 0 []).2) ∧ lr_Hs μ2.1 (min (c + 1) 8) ((n9 + 1) % 8) (lr_psh c F g)) pm_NX := by
  refine pm_CT_of (lo := [some (.ref 0), none, none]) (by decide +kernel) rfl rfl (by intro v hv; simp at hv; rcases hv with rfl <;> rfl) (Nat.le_of_ble_eq_true rfl) rfl ?_
  refine pm_bl [(.aload_n 0, 1, 0, 0, 0), (.aload_n 0, 1, 0, 0, 0), (.getfield 33, 3, 9, 4, 0)] (pc1 := 5) (lo1 := [some (.ref 0), none, none]) (st1 := [.ref 40, .ref 0]) (μ1 := μ) (vc := True) rfl (by decide +kernel) rfl trivial ?_
  refine pm_callV2 mi_X1_read (ix := 257) (b := 40) (ci := 1) (kc2 := 0) (ks2 := 0) (As := []) (rest := [.ref 0]) (c_X1_read (t := t) (n := n) μ h0 hn ht) cal_X1_read lk9_257 (by decide +kernel) rfl (by decide +kernel) rfl rfl rfl rfl (Nat.le_of_ble_eq_true rfl) (by decide) (by decide) (fun _ _ h9 => h9.elim) ?_
  rintro _ μ3 ⟨rfl, hF, hO⟩
  obtain ⟨q1, q2, q3⟩ := hO hRd
  have hH3 : lr_Hs (pm_set (pm_set μ3 0 5 (-1)) 40 0 0).1 c n9 F := ((hH.fk hF).s0 (by decide)).s0 (by decide)
  rw [hRd]
  show pm_V _ _ _ _ 8 _ [.int (-1), .ref 0] _
  refine pm_bl [(.putfield 37, 3, 9, 5, 0), (.aload_n 0, 1, 0, 0, 0), (.getfield 33, 3, 9, 4, 0)] (pc1 := 15) (lo1 := [some (.ref 0), none, none]) (st1 := [.ref 40]) (μ1 := pm_set μ3 0 5 (-1)) (vc := True) rfl (by decide +kernel) rfl trivial ?_
  refine pm_callV2 mi_X1_empty (ix := 261) (b := 40) (ci := 1) (kc2 := 0) (ks2 := 0) (As := []) (rest := []) (c_X1_empty (pm_set μ3 0 5 (-1))) cal_X1_empty lk9_261 (by decide +kernel) rfl (by decide +kernel) rfl rfl rfl rfl (Nat.le_of_ble_eq_true rfl) (by decide) (by decide) (fun _ _ h9 => h9.elim) ?_
  rintro _ _ ⟨rfl, h9⟩; rw [h9]; clear h9
  show pm_V _ _ _ _ 18 _ [] _
  refine pm_bl [(.aload_n 0, 1, 0, 0, 0), (.getfield 37, 3, 9, 5, 0)] (pc1 := 22) (lo1 := [some (.ref 0), none, none]) (st1 := [.int ((pm_set (pm_set μ3 0 5 (-1)) 40 0 0).1 0 5)]) (μ1 := pm_set (pm_set μ3 0 5 (-1)) 40 0 0) (vc := True) rfl (by decide +kernel) rfl trivial ?_
  rw [show (pm_set (pm_set μ3 0 5 (-1)) 40 0 0).1 0 5 = -1 from by rw [pm_set_off (by decide), pm_set_hit]]
  refine pm_bl [(.iconst (-1), 1, 0, 0, (-1))] (pc1 := 23) (lo1 := [some (.ref 0), none, none]) (st1 := [.int (-1), .int (-1)]) (μ1 := pm_set (pm_set μ3 0 5 (-1)) 40 0 0) (vc := True) rfl (by decide +kernel) rfl trivial ?_
  refine pm_icmp_eq (off := 14) 37 (by decide +kernel) (by decide) (fun _ => ?_) (fun h9 => absurd h9 (by decide))
  refine pm_bl [(.aload_n 0, 1, 0, 0, 0)] (pc1 := 38) (lo1 := [some (.ref 0), none, none]) (st1 := [.ref 0]) (μ1 := pm_set (pm_set μ3 0 5 (-1)) 40 0 0) (vc := True) rfl (by decide +kernel) rfl trivial ?_
  refine pm_callV2 mi_X9_reasonAgainstText (ix := 266) (b := 0) (ci := 9) (kc2 := 0) (ks2 := 0) (As := []) (rest := []) (c_X9_reason (L := (lr_rd t n 40 0 []).2) (pm_set (pm_set μ3 0 5 (-1)) 40 0 0) ((hR.fk hF).s0 (Or.inl rfl) |>.s0 (Or.inr (by decide))) hG (by rw [pm_set_miss (Or.inr (by decide)), pm_set_off (by decide)]; exact q1) q3 (fun i x hx => by rw [pm_set_off (by decide), pm_set_off (by decide), pm_set_off (by decide), pm_set_off (by decide), pm_set_off (by decide), pm_set_off (by decide)]; exact q2 i x hx)) cal_X9_reasonAgainstText lk9_266 (by decide +kernel) rfl (by decide +kernel) rfl rfl rfl rfl (Nat.le_of_ble_eq_true rfl) (by decide) (by decide) (fun _ _ h9 => h9.elim) ?_
  rintro _ _ ⟨rfl, h9⟩; rw [h9]; clear h9
  rw [if_pos hw]
  show pm_V _ _ _ _ 41 _ [.int (-1)] _
  refine pm_bl [(.istore_n 1, 1, 1, 0, 0), (.iload_n 1, 1, 1, 0, 0), (.iconst (-1), 1, 0, 0, (-1))] (pc1 := 44) (lo1 := [some (.ref 0), some (.int (-1)), none]) (st1 := [.int (-1), .int (-1)]) (μ1 := pm_set (pm_set μ3 0 5 (-1)) 40 0 0) (vc := True) rfl (by decide +kernel) rfl trivial ?_
  refine pm_icmp_eq (off := 8) 52 (by decide +kernel) (by decide) (fun _ => ?_) (fun h9 => absurd h9 (by decide))
  refine pm_bl [(.aload_n 0, 1, 0, 0, 0), (.getfield 19, 3, 9, 1, 0), (.aload_n 0, 1, 0, 0, 0), (.getfield 10, 3, 9, 0, 0)] (pc1 := 60) (lo1 := [some (.ref 0), some (.int (-1)), none]) (st1 := [.ref 1, .ref 45]) (μ1 := pm_set (pm_set μ3 0 5 (-1)) 40 0 0) (vc := True) rfl (by decide +kernel) rfl trivial ?_
  refine pm_callV2 mi_X2_keep (ix := 78) (b := 45) (ci := 2) (kc2 := 0) (ks2 := 0) (As := [.ref 1]) (rest := []) (c_X2_keep (g := g) (c := c) (n := n9) (pm_set (pm_set μ3 0 5 (-1)) 40 0 0) (((hR.fk hF).s0 (Or.inl rfl)).s0 (Or.inr (by decide))) hG.B hH3.2.1 hH3.2.2.2.1 hH3.2.2.1 hH3.1) cal_X2_keep lk9_78 (by decide +kernel) rfl (by decide +kernel) rfl rfl rfl rfl (Nat.le_of_ble_eq_true rfl) (by decide) (by decide) (fun _ _ h9 => h9.elim) ?_
  rintro _ μ1 ⟨rfl, h2k, hfk, hRk, hck, hnk⟩
  obtain ⟨hFC, hR1, hH1⟩ := lr_keep_ok (((hR.fk hF).s0 (Or.inl rfl)).s0 (Or.inr (by decide))) hH3 h2k hfk hRk hck hnk
  show pm_V _ _ _ _ 63 _ [] _
  refine pm_bl [(.iconst 0, 1, 0, 0, 0), (.istore_n 2, 1, 2, 0, 0)] (pc1 := 65) (lo1 := [some (.ref 0), some (.int (-1)), some (.int 0)]) (st1 := []) (μ1 := μ1) (vc := True) rfl (by decide +kernel) rfl trivial ?_
  exact l_X9_arrive (N := (lr_rd t n 40 0 []).2.length) _ (fun μ2 h1 h2 h3 => ⟨rfl, μ3, hF, h1, h2, h3⟩) q3 (by rw [pm_set_miss (Or.inr (by decide)), pm_set_off (by decide)]; exact q1) (lr_rd t n 40 0 []).2 0 g μ1 (Nat.zero_add _) hFC hR1 hG hH1 (fun i x hx => by rw [Nat.zero_add, pm_set_off (by decide), pm_set_off (by decide), pm_set_off (by decide), pm_set_off (by decide), pm_set_off (by decide), pm_set_off (by decide)]; exact q2 i x hx) hL hw rfl
