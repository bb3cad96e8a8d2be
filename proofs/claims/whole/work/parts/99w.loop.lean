/-! the law's loop over the script -/
theorem lr_and63 (x : Int32) : ∃ k : Nat, k < 64 ∧ x &&& 63 = nI k := by
  refine ⟨x.toUInt32.toNat % 64, Nat.mod_lt _ (by decide), ?_⟩
  apply Int32.toBitVec_inj.mp
  apply BitVec.eq_of_toNat_eq
  show (x.toBitVec &&& 63#32).toNat = (BitVec.ofNat 32 (x.toBitVec.toNat % 64)).toNat
  rw [BitVec.toNat_and, show (63#32 : BitVec 32).toNat = 2 ^ 6 - 1 from by decide, Nat.and_two_pow_sub_one_eq_mod, BitVec.toNat_ofNat]
  omega
theorem lr_left {i L : Nat} (hi : i < 4000) (hL : L ≤ 3072) (h : ¬ Int32.ofNat L - 6 < nI i) : i + 5 < L := by
  by_cases h6 : 6 ≤ L
  · have e : Int32.ofNat L - 6 = nI (L - 6) := nI_subN (a := L) (b := 6) h6
    rw [e] at h
    rcases Nat.lt_or_ge (L - 6) i with q | q
    · exact absurd (nI_lt q (by omega)) h
    · omega
  · exfalso; apply h
    have h0 : (0 : Int32) ≤ nI i := (nI_leI (a := 0) (by decide) (by omega)).mpr (Nat.zero_le _)
    have : Int32.ofNat L - 6 < 0 := by
      rcases (by omega : L = 0 ∨ L = 1 ∨ L = 2 ∨ L = 3 ∨ L = 4 ∨ L = 5) with rfl | rfl | rfl | rfl | rfl | rfl <;> decide
    exact Int32.lt_of_lt_of_le this h0
set_option maxHeartbeats 4000000 in
set_option maxRecDepth 100000 in
theorem la_loop {P : Option Value → pm_Mm → Prop} {X : String → pm_Mm → Prop} {L : Nat} {xs : Nat → Int32} (hL : L ≤ 3072) (hP : ∀ M, P (some (.int 1)) M) : ∀ (n : Nat) {kc ks i : Nat}, L ≤ i + 6 * n + 5 → i < 3990 → kc + 32 * n ≤ 600000 → ks + 1000 * n ≤ 7000000 → ∀ μ : pm_Mm, lr_V μ.1 → pm_V mi_L_law (P, X, lr_Z L xs) kc ks 28 [some (.ref 1000), some (.ref 0), some (.ref 47), some (.ref 55), some (.ref 56), some (.int (nI i)), none, none, none] [] μ := by
  intro n
  induction n with
  | zero =>
    intro kc ks i hn hi g1 g2 μ hV
    refine pm_s_iload (a := 5) (by decide +kernel) rfl ?_
    refine pm_s_aload_n (j := 0) (by decide +kernel) rfl rfl ?_
    refine pm_s_slen (by decide +kernel) ?_
    refine pm_s_bipush (z := 6) (v := 6) (by decide) (by decide +kernel) ?_
    refine pm_s_isub (by decide +kernel) ?_
    refine pm_icmp_gt (off := 2226) 2261 (by decide +kernel) (by decide) (fun _ => ?_) (fun h => ?_)
    · exact pm_s_iconst (z := 1) (v := 1) rfl (by decide +kernel) (pm_iret (ty := .boolean) rfl rfl (Nat.le_trans (by omega : kc ≤ 600000) (by decide)) (Nat.le_trans (by omega : ks ≤ 7000000) (by decide)) (by decide +kernel) (hP μ))
    · exact absurd (lr_left (by omega) hL h) (by omega)
  | succ n ih =>
    intro kc ks i hn hi g1 g2 μ hV
    refine pm_s_iload (a := 5) (by decide +kernel) rfl ?_
    refine pm_s_aload_n (j := 0) (by decide +kernel) rfl rfl ?_
    refine pm_s_slen (by decide +kernel) ?_
    refine pm_s_bipush (z := 6) (v := 6) (by decide) (by decide +kernel) ?_
    refine pm_s_isub (by decide +kernel) ?_
    refine pm_icmp_gt (off := 2226) 2261 (by decide +kernel) (by decide) (fun _ => ?_) (fun h => ?_)
    · exact pm_s_iconst (z := 1) (v := 1) rfl (by decide +kernel) (pm_iret (ty := .boolean) rfl rfl (Nat.le_trans (by omega : kc ≤ 600000) (by decide)) (Nat.le_trans (by omega : ks ≤ 7000000) (by decide)) (by decide +kernel) (hP μ))
    have hi5 := lr_left (by omega) hL h
    have K : ∀ M2 : pm_Mm, lr_V M2.1 → pm_V mi_L_law (P, X, lr_Z L xs) (kc + 32) (ks + 1000) 2255 [some (.ref 1000), some (.ref 0), some (.ref 47), some (.ref 55), some (.ref 56), some (.int (nI i)), none, none, none] [] M2 := by
      intro M2 hM2
      refine pm_s_iinc (a := 5) (z := 6) (v := 6) (by decide +kernel) (by decide) rfl (Nat.le_of_ble_eq_true rfl) rfl (by simp) ?_
      rw [show nI i + (6 : Int32) = nI (i + 6) from (Int32.ofNat_add i 6).symm]
      exact pm_s_goto (off := -2230) (tgt := 28) (by decide +kernel) (by decide) (ih (i := i + 6) (by omega) (by omega) (by omega) (by omega) M2 hM2)
    refine pm_s_aload_n (j := 0) (by decide +kernel) rfl rfl ?_
    refine pm_s_iload (a := 5) (by decide +kernel) rfl ?_
    refine pm_s_sld (vp_in_nI (by omega) (by omega)) (by decide +kernel) ?_
    rw [nI_clamp (by omega)]
    refine pm_s_bipush (z := 63) (v := 63) (by decide) (by decide +kernel) ?_
    refine pm_s_iand (by decide +kernel) ?_
    obtain ⟨c, hc, he⟩ := lr_and63 (xs i)
    rw [he]
    show pm_V mi_L_law _ kc ks 45 [some (.ref 1000), some (.ref 0), some (.ref 47), some (.ref 55), some (.ref 56), some (.int (nI i)), none, none, none] [.int (nI c)] μ
    by_cases hc3 : c < 34
    · have hz := Decidable.em (xs (i + 3) = 0)
      rcases (by omega : c = 0 ∨ c = 1 ∨ c = 2 ∨ c = 3 ∨ c = 4 ∨ c = 5 ∨ c = 6 ∨ c = 7 ∨ c = 8 ∨ c = 9 ∨ c = 10 ∨ c = 11 ∨ c = 12 ∨ c = 13 ∨ c = 14 ∨ c = 15 ∨ c = 16 ∨ c = 17 ∨ c = 18 ∨ c = 19 ∨ c = 20 ∨ c = 21 ∨ c = 22 ∨ c = 23 ∨ c = 24 ∨ c = 25 ∨ c = 26 ∨ c = 27 ∨ c = 28 ∨ c = 29 ∨ c = 30 ∨ c = 31 ∨ c = 32 ∨ c = 33) with rfl | rfl | rfl | rfl | rfl | rfl | rfl | rfl | rfl | rfl | rfl | rfl | rfl | rfl | rfl | rfl | rfl | rfl | rfl | rfl | rfl | rfl | rfl | rfl | rfl | rfl | rfl | rfl | rfl | rfl | rfl | rfl | rfl | rfl
      · exact pm_tswI (dflt := 2210) (a := 0) (b := 33) (offs := #[151, 219, 275, 379, 435, 503, 559, 651, 743, 799, 879, 947, 1050, 1118, 1198, 1266, 1346, 1442, 1480, 1524, 1537, 1581, 1649, 1705, 1773, 1829, 1885, 1941, 1954, 2010, 2066, 2131, 2175, 2186]) (len := 151) (off := 151) 196 (by decide +kernel) (by decide) (by decide) (by decide) (by decide) (la_addHouse hi5 hL (by omega) (by omega) μ hV K)
      · exact pm_tswI (dflt := 2210) (a := 0) (b := 33) (offs := #[151, 219, 275, 379, 435, 503, 559, 651, 743, 799, 879, 947, 1050, 1118, 1198, 1266, 1346, 1442, 1480, 1524, 1537, 1581, 1649, 1705, 1773, 1829, 1885, 1941, 1954, 2010, 2066, 2131, 2175, 2186]) (len := 151) (off := 219) 264 (by decide +kernel) (by decide) (by decide) (by decide) (by decide) (la_addPerson hi5 hL (by omega) (by omega) μ hV K)
      · exact pm_tswI (dflt := 2210) (a := 0) (b := 33) (offs := #[151, 219, 275, 379, 435, 503, 559, 651, 743, 799, 879, 947, 1050, 1118, 1198, 1266, 1346, 1442, 1480, 1524, 1537, 1581, 1649, 1705, 1773, 1829, 1885, 1941, 1954, 2010, 2066, 2131, 2175, 2186]) (len := 151) (off := 275) 320 (by decide +kernel) (by decide) (by decide) (by decide) (by decide) (la_addWalk hi5 hL (by omega) (by omega) μ hV K)
      · exact pm_tswI (dflt := 2210) (a := 0) (b := 33) (offs := #[151, 219, 275, 379, 435, 503, 559, 651, 743, 799, 879, 947, 1050, 1118, 1198, 1266, 1346, 1442, 1480, 1524, 1537, 1581, 1649, 1705, 1773, 1829, 1885, 1941, 1954, 2010, 2066, 2131, 2175, 2186]) (len := 151) (off := 379) 424 (by decide +kernel) (by decide) (by decide) (by decide) (by decide) (la_walkOf hi5 hL (by omega) (by omega) μ hV K)
      · exact pm_tswI (dflt := 2210) (a := 0) (b := 33) (offs := #[151, 219, 275, 379, 435, 503, 559, 651, 743, 799, 879, 947, 1050, 1118, 1198, 1266, 1346, 1442, 1480, 1524, 1537, 1581, 1649, 1705, 1773, 1829, 1885, 1941, 1954, 2010, 2066, 2131, 2175, 2186]) (len := 151) (off := 435) 480 (by decide +kernel) (by decide) (by decide) (by decide) (by decide) (la_stop hi5 hL (by omega) (by omega) μ hV K)
      · exact pm_tswI (dflt := 2210) (a := 0) (b := 33) (offs := #[151, 219, 275, 379, 435, 503, 559, 651, 743, 799, 879, 947, 1050, 1118, 1198, 1266, 1346, 1442, 1480, 1524, 1537, 1581, 1649, 1705, 1773, 1829, 1885, 1941, 1954, 2010, 2066, 2131, 2175, 2186]) (len := 151) (off := 503) 548 (by decide +kernel) (by decide) (by decide) (by decide) (by decide) (la_stopIndex hi5 hL (by omega) (by omega) μ hV K)
      · exact pm_tswI (dflt := 2210) (a := 0) (b := 33) (offs := #[151, 219, 275, 379, 435, 503, 559, 651, 743, 799, 879, 947, 1050, 1118, 1198, 1266, 1346, 1442, 1480, 1524, 1537, 1581, 1649, 1705, 1773, 1829, 1885, 1941, 1954, 2010, 2066, 2131, 2175, 2186]) (len := 151) (off := 559) 604 (by decide +kernel) (by decide) (by decide) (by decide) (by decide) (la_redirectPerson hi5 hL (by omega) (by omega) μ hV K)
      · exact pm_tswI (dflt := 2210) (a := 0) (b := 33) (offs := #[151, 219, 275, 379, 435, 503, 559, 651, 743, 799, 879, 947, 1050, 1118, 1198, 1266, 1346, 1442, 1480, 1524, 1537, 1581, 1649, 1705, 1773, 1829, 1885, 1941, 1954, 2010, 2066, 2131, 2175, 2186]) (len := 151) (off := 651) 696 (by decide +kernel) (by decide) (by decide) (by decide) (by decide) (la_redirectHouse hi5 hL (by omega) (by omega) μ hV K)
      · exact pm_tswI (dflt := 2210) (a := 0) (b := 33) (offs := #[151, 219, 275, 379, 435, 503, 559, 651, 743, 799, 879, 947, 1050, 1118, 1198, 1266, 1346, 1442, 1480, 1524, 1537, 1581, 1649, 1705, 1773, 1829, 1885, 1941, 1954, 2010, 2066, 2131, 2175, 2186]) (len := 151) (off := 743) 788 (by decide +kernel) (by decide) (by decide) (by decide) (by decide) (la_dropRedirect hi5 hL (by omega) (by omega) μ hV K)
      · exact pm_tswI (dflt := 2210) (a := 0) (b := 33) (offs := #[151, 219, 275, 379, 435, 503, 559, 651, 743, 799, 879, 947, 1050, 1118, 1198, 1266, 1346, 1442, 1480, 1524, 1537, 1581, 1649, 1705, 1773, 1829, 1885, 1941, 1954, 2010, 2066, 2131, 2175, 2186]) (len := 151) (off := 799) 844 (by decide +kernel) (by decide) (by decide) (by decide) (by decide) (la_way hi5 hL (by omega) (by omega) μ hV K)
      · exact pm_tswI (dflt := 2210) (a := 0) (b := 33) (offs := #[151, 219, 275, 379, 435, 503, 559, 651, 743, 799, 879, 947, 1050, 1118, 1198, 1266, 1346, 1442, 1480, 1524, 1537, 1581, 1649, 1705, 1773, 1829, 1885, 1941, 1954, 2010, 2066, 2131, 2175, 2186]) (len := 151) (off := 879) 924 (by decide +kernel) (by decide) (by decide) (by decide) (by decide) (la_hold hi5 hL (by omega) (by omega) μ hV K)
      · rcases hz with hz | hz
        · exact pm_tswI (dflt := 2210) (a := 0) (b := 33) (offs := #[151, 219, 275, 379, 435, 503, 559, 651, 743, 799, 879, 947, 1050, 1118, 1198, 1266, 1346, 1442, 1480, 1524, 1537, 1581, 1649, 1705, 1773, 1829, 1885, 1941, 1954, 2010, 2066, 2131, 2175, 2186]) (len := 151) (off := 947) 992 (by decide +kernel) (by decide) (by decide) (by decide) (by decide) (la_allow_0 hi5 hL (by omega) (by omega) μ hV hz K)
        · exact pm_tswI (dflt := 2210) (a := 0) (b := 33) (offs := #[151, 219, 275, 379, 435, 503, 559, 651, 743, 799, 879, 947, 1050, 1118, 1198, 1266, 1346, 1442, 1480, 1524, 1537, 1581, 1649, 1705, 1773, 1829, 1885, 1941, 1954, 2010, 2066, 2131, 2175, 2186]) (len := 151) (off := 947) 992 (by decide +kernel) (by decide) (by decide) (by decide) (by decide) (la_allow_1 hi5 hL (by omega) (by omega) μ hV hz K)
      · exact pm_tswI (dflt := 2210) (a := 0) (b := 33) (offs := #[151, 219, 275, 379, 435, 503, 559, 651, 743, 799, 879, 947, 1050, 1118, 1198, 1266, 1346, 1442, 1480, 1524, 1537, 1581, 1649, 1705, 1773, 1829, 1885, 1941, 1954, 2010, 2066, 2131, 2175, 2186]) (len := 151) (off := 1050) 1095 (by decide +kernel) (by decide) (by decide) (by decide) (by decide) (la_setLimit hi5 hL (by omega) (by omega) μ hV K)
      · exact pm_tswI (dflt := 2210) (a := 0) (b := 33) (offs := #[151, 219, 275, 379, 435, 503, 559, 651, 743, 799, 879, 947, 1050, 1118, 1198, 1266, 1346, 1442, 1480, 1524, 1537, 1581, 1649, 1705, 1773, 1829, 1885, 1941, 1954, 2010, 2066, 2131, 2175, 2186]) (len := 151) (off := 1118) 1163 (by decide +kernel) (by decide) (by decide) (by decide) (by decide) (la_leave hi5 hL (by omega) (by omega) μ hV K)
      · exact pm_tswI (dflt := 2210) (a := 0) (b := 33) (offs := #[151, 219, 275, 379, 435, 503, 559, 651, 743, 799, 879, 947, 1050, 1118, 1198, 1266, 1346, 1442, 1480, 1524, 1537, 1581, 1649, 1705, 1773, 1829, 1885, 1941, 1954, 2010, 2066, 2131, 2175, 2186]) (len := 151) (off := 1198) 1243 (by decide +kernel) (by decide) (by decide) (by decide) (by decide) (la_signer hi5 hL (by omega) (by omega) μ hV K)
      · exact pm_tswI (dflt := 2210) (a := 0) (b := 33) (offs := #[151, 219, 275, 379, 435, 503, 559, 651, 743, 799, 879, 947, 1050, 1118, 1198, 1266, 1346, 1442, 1480, 1524, 1537, 1581, 1649, 1705, 1773, 1829, 1885, 1941, 1954, 2010, 2066, 2131, 2175, 2186]) (len := 151) (off := 1266) 1311 (by decide +kernel) (by decide) (by decide) (by decide) (by decide) (la_residents hi5 hL (by omega) (by omega) μ hV K)
      · rcases hz with hz | hz
        · exact pm_tswI (dflt := 2210) (a := 0) (b := 33) (offs := #[151, 219, 275, 379, 435, 503, 559, 651, 743, 799, 879, 947, 1050, 1118, 1198, 1266, 1346, 1442, 1480, 1524, 1537, 1581, 1649, 1705, 1773, 1829, 1885, 1941, 1954, 2010, 2066, 2131, 2175, 2186]) (len := 151) (off := 1346) 1391 (by decide +kernel) (by decide) (by decide) (by decide) (by decide) (la_addLetter_0 hi5 hL (by omega) (by omega) μ hV hz K)
        · exact pm_tswI (dflt := 2210) (a := 0) (b := 33) (offs := #[151, 219, 275, 379, 435, 503, 559, 651, 743, 799, 879, 947, 1050, 1118, 1198, 1266, 1346, 1442, 1480, 1524, 1537, 1581, 1649, 1705, 1773, 1829, 1885, 1941, 1954, 2010, 2066, 2131, 2175, 2186]) (len := 151) (off := 1346) 1391 (by decide +kernel) (by decide) (by decide) (by decide) (by decide) (la_addLetter_1 hi5 hL (by omega) (by omega) μ hV hz K)
      · exact pm_tswI (dflt := 2210) (a := 0) (b := 33) (offs := #[151, 219, 275, 379, 435, 503, 559, 651, 743, 799, 879, 947, 1050, 1118, 1198, 1266, 1346, 1442, 1480, 1524, 1537, 1581, 1649, 1705, 1773, 1829, 1885, 1941, 1954, 2010, 2066, 2131, 2175, 2186]) (len := 151) (off := 1442) 1487 (by decide +kernel) (by decide) (by decide) (by decide) (by decide) (la_append hi5 hL (by omega) (by omega) μ hV K)
      · exact pm_tswI (dflt := 2210) (a := 0) (b := 33) (offs := #[151, 219, 275, 379, 435, 503, 559, 651, 743, 799, 879, 947, 1050, 1118, 1198, 1266, 1346, 1442, 1480, 1524, 1537, 1581, 1649, 1705, 1773, 1829, 1885, 1941, 1954, 2010, 2066, 2131, 2175, 2186]) (len := 151) (off := 1480) 1525 (by decide +kernel) (by decide) (by decide) (by decide) (by decide) (la_arrive hi5 hL (by omega) (by omega) μ hV K)
      · exact pm_tswI (dflt := 2210) (a := 0) (b := 33) (offs := #[151, 219, 275, 379, 435, 503, 559, 651, 743, 799, 879, 947, 1050, 1118, 1198, 1266, 1346, 1442, 1480, 1524, 1537, 1581, 1649, 1705, 1773, 1829, 1885, 1941, 1954, 2010, 2066, 2131, 2175, 2186]) (len := 151) (off := 1524) 1569 (by decide +kernel) (by decide) (by decide) (by decide) (by decide) (la_faultPosition hi5 hL (by omega) (by omega) μ hV K)
      · exact pm_tswI (dflt := 2210) (a := 0) (b := 33) (offs := #[151, 219, 275, 379, 435, 503, 559, 651, 743, 799, 879, 947, 1050, 1118, 1198, 1266, 1346, 1442, 1480, 1524, 1537, 1581, 1649, 1705, 1773, 1829, 1885, 1941, 1954, 2010, 2066, 2131, 2175, 2186]) (len := 151) (off := 1537) 1582 (by decide +kernel) (by decide) (by decide) (by decide) (by decide) (la_refusal hi5 hL (by omega) (by omega) μ hV K)
      · exact pm_tswI (dflt := 2210) (a := 0) (b := 33) (offs := #[151, 219, 275, 379, 435, 503, 559, 651, 743, 799, 879, 947, 1050, 1118, 1198, 1266, 1346, 1442, 1480, 1524, 1537, 1581, 1649, 1705, 1773, 1829, 1885, 1941, 1954, 2010, 2066, 2131, 2175, 2186]) (len := 151) (off := 1581) 1626 (by decide +kernel) (by decide) (by decide) (by decide) (by decide) (la_letter hi5 hL (by omega) (by omega) μ hV K)
      · exact pm_tswI (dflt := 2210) (a := 0) (b := 33) (offs := #[151, 219, 275, 379, 435, 503, 559, 651, 743, 799, 879, 947, 1050, 1118, 1198, 1266, 1346, 1442, 1480, 1524, 1537, 1581, 1649, 1705, 1773, 1829, 1885, 1941, 1954, 2010, 2066, 2131, 2175, 2186]) (len := 151) (off := 1649) 1694 (by decide +kernel) (by decide) (by decide) (by decide) (by decide) (la_noteLength hi5 hL (by omega) (by omega) μ hV K)
      · exact pm_tswI (dflt := 2210) (a := 0) (b := 33) (offs := #[151, 219, 275, 379, 435, 503, 559, 651, 743, 799, 879, 947, 1050, 1118, 1198, 1266, 1346, 1442, 1480, 1524, 1537, 1581, 1649, 1705, 1773, 1829, 1885, 1941, 1954, 2010, 2066, 2131, 2175, 2186]) (len := 151) (off := 1705) 1750 (by decide +kernel) (by decide) (by decide) (by decide) (by decide) (la_note hi5 hL (by omega) (by omega) μ hV K)
      · exact pm_tswI (dflt := 2210) (a := 0) (b := 33) (offs := #[151, 219, 275, 379, 435, 503, 559, 651, 743, 799, 879, 947, 1050, 1118, 1198, 1266, 1346, 1442, 1480, 1524, 1537, 1581, 1649, 1705, 1773, 1829, 1885, 1941, 1954, 2010, 2066, 2131, 2175, 2186]) (len := 151) (off := 1773) 1818 (by decide +kernel) (by decide) (by decide) (by decide) (by decide) (la_delivered hi5 hL (by omega) (by omega) μ hV K)
      · exact pm_tswI (dflt := 2210) (a := 0) (b := 33) (offs := #[151, 219, 275, 379, 435, 503, 559, 651, 743, 799, 879, 947, 1050, 1118, 1198, 1266, 1346, 1442, 1480, 1524, 1537, 1581, 1649, 1705, 1773, 1829, 1885, 1941, 1954, 2010, 2066, 2131, 2175, 2186]) (len := 151) (off := 1829) 1874 (by decide +kernel) (by decide) (by decide) (by decide) (by decide) (la_daysLeft hi5 hL (by omega) (by omega) μ hV K)
      · exact pm_tswI (dflt := 2210) (a := 0) (b := 33) (offs := #[151, 219, 275, 379, 435, 503, 559, 651, 743, 799, 879, 947, 1050, 1118, 1198, 1266, 1346, 1442, 1480, 1524, 1537, 1581, 1649, 1705, 1773, 1829, 1885, 1941, 1954, 2010, 2066, 2131, 2175, 2186]) (len := 151) (off := 1885) 1930 (by decide +kernel) (by decide) (by decide) (by decide) (by decide) (la_pass hi5 hL (by omega) (by omega) μ hV K)
      · exact pm_tswI (dflt := 2210) (a := 0) (b := 33) (offs := #[151, 219, 275, 379, 435, 503, 559, 651, 743, 799, 879, 947, 1050, 1118, 1198, 1266, 1346, 1442, 1480, 1524, 1537, 1581, 1649, 1705, 1773, 1829, 1885, 1941, 1954, 2010, 2066, 2131, 2175, 2186]) (len := 151) (off := 1941) 1986 (by decide +kernel) (by decide) (by decide) (by decide) (by decide) (la_today hi5 hL (by omega) (by omega) μ hV K)
      · exact pm_tswI (dflt := 2210) (a := 0) (b := 33) (offs := #[151, 219, 275, 379, 435, 503, 559, 651, 743, 799, 879, 947, 1050, 1118, 1198, 1266, 1346, 1442, 1480, 1524, 1537, 1581, 1649, 1705, 1773, 1829, 1885, 1941, 1954, 2010, 2066, 2131, 2175, 2186]) (len := 151) (off := 1954) 1999 (by decide +kernel) (by decide) (by decide) (by decide) (by decide) (la_account hi5 hL (by omega) (by omega) μ hV K)
      · exact pm_tswI (dflt := 2210) (a := 0) (b := 33) (offs := #[151, 219, 275, 379, 435, 503, 559, 651, 743, 799, 879, 947, 1050, 1118, 1198, 1266, 1346, 1442, 1480, 1524, 1537, 1581, 1649, 1705, 1773, 1829, 1885, 1941, 1954, 2010, 2066, 2131, 2175, 2186]) (len := 151) (off := 2010) 2055 (by decide +kernel) (by decide) (by decide) (by decide) (by decide) (la_returned hi5 hL (by omega) (by omega) μ hV K)
      · exact pm_tswI (dflt := 2210) (a := 0) (b := 33) (offs := #[151, 219, 275, 379, 435, 503, 559, 651, 743, 799, 879, 947, 1050, 1118, 1198, 1266, 1346, 1442, 1480, 1524, 1537, 1581, 1649, 1705, 1773, 1829, 1885, 1941, 1954, 2010, 2066, 2131, 2175, 2186]) (len := 151) (off := 2066) 2111 (by decide +kernel) (by decide) (by decide) (by decide) (by decide) (la_meanDays hi5 hL (by omega) (by omega) μ hV K)
      · exact pm_tswI (dflt := 2210) (a := 0) (b := 33) (offs := #[151, 219, 275, 379, 435, 503, 559, 651, 743, 799, 879, 947, 1050, 1118, 1198, 1266, 1346, 1442, 1480, 1524, 1537, 1581, 1649, 1705, 1773, 1829, 1885, 1941, 1954, 2010, 2066, 2131, 2175, 2186]) (len := 151) (off := 2131) 2176 (by decide +kernel) (by decide) (by decide) (by decide) (by decide) (la_undo hi5 hL (by omega) (by omega) μ hV K)
      · exact pm_tswI (dflt := 2210) (a := 0) (b := 33) (offs := #[151, 219, 275, 379, 435, 503, 559, 651, 743, 799, 879, 947, 1050, 1118, 1198, 1266, 1346, 1442, 1480, 1524, 1537, 1581, 1649, 1705, 1773, 1829, 1885, 1941, 1954, 2010, 2066, 2131, 2175, 2186]) (len := 151) (off := 2175) 2220 (by decide +kernel) (by decide) (by decide) (by decide) (by decide) (la_save hi5 hL (by omega) (by omega) μ hV K)
      · exact pm_tswI (dflt := 2210) (a := 0) (b := 33) (offs := #[151, 219, 275, 379, 435, 503, 559, 651, 743, 799, 879, 947, 1050, 1118, 1198, 1266, 1346, 1442, 1480, 1524, 1537, 1581, 1649, 1705, 1773, 1829, 1885, 1941, 1954, 2010, 2066, 2131, 2175, 2186]) (len := 151) (off := 2186) 2231 (by decide +kernel) (by decide) (by decide) (by decide) (by decide) (la_restore hi5 hL (by omega) (by omega) μ hV K)
    · exact pm_tswO (dflt := 2210) (a := 0) (b := 33) (offs := #[151, 219, 275, 379, 435, 503, 559, 651, 743, 799, 879, 947, 1050, 1118, 1198, 1266, 1346, 1442, 1480, 1524, 1537, 1581, 1649, 1705, 1773, 1829, 1885, 1941, 1954, 2010, 2066, 2131, 2175, 2186]) (len := 151) 2255 (by decide +kernel) (Or.inr (by rw [nI_toInt (by omega)]; omega)) (by decide) ((K μ hV).grow (Nat.le_add_right _ _) (Nat.le_add_right _ _))
