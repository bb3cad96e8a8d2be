/-! the cases of the law -/
theorem lr_fit {mi2 : pm_Mi} {kc ks : Nat} (h : pm_fit mi_L_law mi2 600000 7000000 = true) (h1 : kc ≤ 600000) (h2 : ks ≤ 7000000) : pm_fit mi_L_law mi2 kc ks = true := by
  simp only [pm_fit, Bool.and_eq_true, decide_eq_true_eq] at h ⊢
  exact ⟨h.1, h.2.1, Nat.le_trans (Nat.add_le_add_right h1 _) h.2.2.1, Nat.le_trans (Nat.add_le_add_right h2 _) h.2.2.2⟩
theorem lr_c16 (x : Int32) : narrow .char (.int (x.toUInt32 % 65536).toInt32) = .int (x.toUInt32 % 65536).toInt32 := by
  show Value.int _ = Value.int _
  congr 1
  apply Int32.toBitVec_inj.mp
  apply BitVec.eq_of_toNat_eq
  simp
set_option maxHeartbeats 4000000 in
set_option maxRecDepth 100000 in
theorem la_addHouse {P : Option Value → pm_Mm → Prop} {X : String → pm_Mm → Prop} {L : Nat} {xs : Nat → Int32} {kc ks i : Nat} (hi : i + 5 < L) (hL : L ≤ 3072) (h1 : kc + 32 ≤ 600000) (h2 : ks + 1000 ≤ 7000000) (μ : pm_Mm) (hV : lr_V μ.1) (K : ∀ M2 : pm_Mm, lr_V M2.1 → pm_V mi_L_law (P, X, lr_Z L xs) (kc + 32) (ks + 1000) 2255 [some (.ref 1000), some (.ref 0), some (.ref 47), some (.ref 55), some (.ref 56), some (.int (nI i)), none, none, none] [] M2) : pm_V mi_L_law (P, X, lr_Z L xs) kc ks 196 [some (.ref 1000), some (.ref 0), some (.ref 47), some (.ref 55), some (.ref 56), some (.int (nI i)), none, none, none] [] μ := by
  have g1 : kc ≤ 600000 := by omega
  have g2 : ks ≤ 7000000 := by omega
  refine pm_s_aload_n (j := 1) (by decide +kernel) rfl rfl ?_
  refine pm_s_arg (i := i) (j := 1) (kk := 1) rfl rfl rfl (by omega) hL (by decide +kernel) (by decide +kernel) (by decide +kernel) (by decide +kernel) (by decide +kernel) ?_
  refine pm_s_arg (i := i) (j := 2) (kk := 2) rfl rfl rfl (by omega) hL (by decide +kernel) (by decide +kernel) (by decide +kernel) (by decide +kernel) (by decide +kernel) ?_
  refine pm_s_aload_n (j := 3) (by decide +kernel) rfl rfl ?_
  refine pm_callSH mi_L_addHouse (ix := 129) (n := 4) (As := [.ref 0, .int (xs (i + 1)), .int (xs (i + 2)), .ref 55]) (rest := []) (st_addHouse _ _ _ hV) cal_L_addHouse lk11_129 (lr_fit (by decide) g1 g2) rfl (by decide +kernel) rfl rfl (by decide) (fun _ _ h => h.elim) ?_
  rintro _ M ⟨k, rfl, hM⟩
  refine pm_V.grow (kc' := kc + 32) (ks' := ks + 1000) (Nat.add_le_add_left (by decide) _) (Nat.add_le_add_left (by decide) _) ?_
  show pm_V mi_L_law _ _ _ 213 [some (.ref 1000), some (.ref 0), some (.ref 47), some (.ref 55), some (.ref 56), some (.int (nI i)), none, none, none] [.int k] M
  refine pm_s_istore (a := 6) (by decide +kernel) (by decide) rfl (Nat.le_of_ble_eq_true rfl) ?_
  show pm_V mi_L_law _ _ _ 215 [some (.ref 1000), some (.ref 0), some (.ref 47), some (.ref 55), some (.ref 56), some (.int (nI i)), some (.int k), none, none] [] _
  refine pm_s_aload_n (j := 2) (by decide +kernel) rfl rfl ?_
  refine pm_s_arg (i := i) (j := 1) (kk := 1) rfl rfl rfl (by omega) hL (by decide +kernel) (by decide +kernel) (by decide +kernel) (by decide +kernel) (by decide +kernel) ?_
  refine pm_s_arg (i := i) (j := 2) (kk := 2) rfl rfl rfl (by omega) hL (by decide +kernel) (by decide +kernel) (by decide +kernel) (by decide +kernel) (by decide +kernel) ?_
  refine pm_callV2 mi_X10_addHouse (ix := 134) (b := 47) (ci := 10) (kc2 := kc + 32) (ks2 := ks + 1000) (As := [.int (xs (i + 1)), .int (xs (i + 2))]) (rest := []) hM cal_X10_addHouse lk11_134 (lr_fit (by decide) h1 h2) rfl (by decide +kernel) rfl rfl rfl rfl (Nat.le_of_ble_eq_true rfl) (Nat.le_refl _) (Nat.le_refl _) (fun _ _ h9 => h9.elim) ?_
  rintro _ M2 ⟨y, rfl, h7, hout, hV2⟩
  refine pm_s_istore (a := 7) (by decide +kernel) (by decide) rfl (Nat.le_of_ble_eq_true rfl) ?_
  show pm_V mi_L_law _ _ _ 233 [some (.ref 1000), some (.ref 0), some (.ref 47), some (.ref 55), some (.ref 56), some (.int (nI i)), some (.int k), some (.int y), none] [] _
  refine pm_s_aload_n (j := 2) (by decide +kernel) rfl rfl ?_
  refine pm_callV2 mi_X10_thrown (ix := 135) (b := 47) (ci := 10) (kc2 := kc + 32) (ks2 := ks + 1000) (As := []) (rest := []) (c_X10_thrown M2) cal_X10_thrown lk11_135 (lr_fit (by decide) h1 h2) rfl (by decide +kernel) rfl rfl rfl rfl (Nat.le_of_ble_eq_true rfl) (Nat.le_refl _) (Nat.le_refl _) (fun _ _ h9 => h9.elim) ?_
  rintro _ _ ⟨rfl, h9⟩; rw [h9]; clear h9
  rw [h7]
  show pm_V mi_L_law _ _ _ 237 [some (.ref 1000), some (.ref 0), some (.ref 47), some (.ref 55), some (.ref 56), some (.int (nI i)), some (.int k), some (.int y), none] [.int k] M2
  have back : pm_V mi_L_law (P, X, lr_Z L xs) (kc + 32) (ks + 1000) 261 [some (.ref 1000), some (.ref 0), some (.ref 47), some (.ref 55), some (.ref 56), some (.int (nI i)), some (.int k), some (.int y), none] [] M2 := pm_s_goto (off := 1994) (tgt := 2255) (by decide +kernel) (by decide) (pm_V.drop (lo' := [some (.ref 1000), some (.ref 0), some (.ref 47), some (.ref 55), some (.ref 56), some (.int (nI i)), none, none, none]) ⟨rfl, rfl, rfl, rfl, rfl, rfl, trivial⟩ (K M2 hV2))
  refine pm_s_iload (a := 6) (by decide +kernel) rfl ?_
  refine pm_icmp_eq (off := 5) 244 (by decide +kernel) (by decide) (fun _ => ?_) (fun h => absurd rfl h)
  refine pm_s_iload (a := 6) (by decide +kernel) rfl ?_
  refine pm_if_ne (off := 15) 261 (by decide +kernel) (by decide) (fun _ => back) (fun h0 => ?_)
  refine pm_s_aload_n (j := 3) (by decide +kernel) rfl rfl ?_
  refine pm_s_iconst (z := 0) (v := 0) rfl (by decide +kernel) ?_
  refine pm_s_lald (r := 55) (n := 1) rfl (by unfold vp_in; decide) (by decide +kernel) ?_
  rw [show (0 : Int32).toNatClampNeg = 0 from by decide, hout h0]
  refine pm_s_iload (a := 7) (by decide +kernel) rfl ?_
  refine pm_s_i2l (by decide +kernel) ?_
  refine pm_s_lcmp0 (by decide +kernel) ?_
  refine pm_if_eq (off := 5) 261 (by decide +kernel) (by decide) (fun _ => back) (fun h => absurd rfl h)
set_option maxHeartbeats 4000000 in
set_option maxRecDepth 100000 in
theorem la_addPerson {P : Option Value → pm_Mm → Prop} {X : String → pm_Mm → Prop} {L : Nat} {xs : Nat → Int32} {kc ks i : Nat} (hi : i + 5 < L) (hL : L ≤ 3072) (h1 : kc + 32 ≤ 600000) (h2 : ks + 1000 ≤ 7000000) (μ : pm_Mm) (hV : lr_V μ.1) (K : ∀ M2 : pm_Mm, lr_V M2.1 → pm_V mi_L_law (P, X, lr_Z L xs) (kc + 32) (ks + 1000) 2255 [some (.ref 1000), some (.ref 0), some (.ref 47), some (.ref 55), some (.ref 56), some (.int (nI i)), none, none, none] [] M2) : pm_V mi_L_law (P, X, lr_Z L xs) kc ks 264 [some (.ref 1000), some (.ref 0), some (.ref 47), some (.ref 55), some (.ref 56), some (.int (nI i)), none, none, none] [] μ := by
  have g1 : kc ≤ 600000 := by omega
  have g2 : ks ≤ 7000000 := by omega
  refine pm_s_aload_n (j := 1) (by decide +kernel) rfl rfl ?_
  refine pm_s_arg (i := i) (j := 1) (kk := 1) rfl rfl rfl (by omega) hL (by decide +kernel) (by decide +kernel) (by decide +kernel) (by decide +kernel) (by decide +kernel) ?_
  refine pm_s_aload_n (j := 3) (by decide +kernel) rfl rfl ?_
  refine pm_callSH mi_L_addPerson (ix := 138) (n := 3) (As := [.ref 0, .int (xs (i + 1)), .ref 55]) (rest := []) (st_addPerson _ _ hV) cal_L_addPerson lk11_138 (lr_fit (by decide) g1 g2) rfl (by decide +kernel) rfl rfl (by decide) (fun _ _ h => h.elim) ?_
  rintro _ M ⟨k, rfl, hM⟩
  refine pm_V.grow (kc' := kc + 32) (ks' := ks + 1000) (Nat.add_le_add_left (by decide) _) (Nat.add_le_add_left (by decide) _) ?_
  show pm_V mi_L_law _ _ _ 275 [some (.ref 1000), some (.ref 0), some (.ref 47), some (.ref 55), some (.ref 56), some (.int (nI i)), none, none, none] [.int k] M
  refine pm_s_istore (a := 6) (by decide +kernel) (by decide) rfl (Nat.le_of_ble_eq_true rfl) ?_
  show pm_V mi_L_law _ _ _ 277 [some (.ref 1000), some (.ref 0), some (.ref 47), some (.ref 55), some (.ref 56), some (.int (nI i)), some (.int k), none, none] [] _
  refine pm_s_aload_n (j := 2) (by decide +kernel) rfl rfl ?_
  refine pm_s_arg (i := i) (j := 1) (kk := 1) rfl rfl rfl (by omega) hL (by decide +kernel) (by decide +kernel) (by decide +kernel) (by decide +kernel) (by decide +kernel) ?_
  refine pm_callV2 mi_X10_addPerson (ix := 141) (b := 47) (ci := 10) (kc2 := kc + 32) (ks2 := ks + 1000) (As := [.int (xs (i + 1))]) (rest := []) hM cal_X10_addPerson lk11_141 (lr_fit (by decide) h1 h2) rfl (by decide +kernel) rfl rfl rfl rfl (Nat.le_of_ble_eq_true rfl) (Nat.le_refl _) (Nat.le_refl _) (fun _ _ h9 => h9.elim) ?_
  rintro _ M2 ⟨y, rfl, h7, hout, hV2⟩
  refine pm_s_istore (a := 7) (by decide +kernel) (by decide) rfl (Nat.le_of_ble_eq_true rfl) ?_
  show pm_V mi_L_law _ _ _ 289 [some (.ref 1000), some (.ref 0), some (.ref 47), some (.ref 55), some (.ref 56), some (.int (nI i)), some (.int k), some (.int y), none] [] _
  refine pm_s_aload_n (j := 2) (by decide +kernel) rfl rfl ?_
  refine pm_callV2 mi_X10_thrown (ix := 135) (b := 47) (ci := 10) (kc2 := kc + 32) (ks2 := ks + 1000) (As := []) (rest := []) (c_X10_thrown M2) cal_X10_thrown lk11_135 (lr_fit (by decide) h1 h2) rfl (by decide +kernel) rfl rfl rfl rfl (Nat.le_of_ble_eq_true rfl) (Nat.le_refl _) (Nat.le_refl _) (fun _ _ h9 => h9.elim) ?_
  rintro _ _ ⟨rfl, h9⟩; rw [h9]; clear h9
  rw [h7]
  show pm_V mi_L_law _ _ _ 293 [some (.ref 1000), some (.ref 0), some (.ref 47), some (.ref 55), some (.ref 56), some (.int (nI i)), some (.int k), some (.int y), none] [.int k] M2
  have back : pm_V mi_L_law (P, X, lr_Z L xs) (kc + 32) (ks + 1000) 317 [some (.ref 1000), some (.ref 0), some (.ref 47), some (.ref 55), some (.ref 56), some (.int (nI i)), some (.int k), some (.int y), none] [] M2 := pm_s_goto (off := 1938) (tgt := 2255) (by decide +kernel) (by decide) (pm_V.drop (lo' := [some (.ref 1000), some (.ref 0), some (.ref 47), some (.ref 55), some (.ref 56), some (.int (nI i)), none, none, none]) ⟨rfl, rfl, rfl, rfl, rfl, rfl, trivial⟩ (K M2 hV2))
  refine pm_s_iload (a := 6) (by decide +kernel) rfl ?_
  refine pm_icmp_eq (off := 5) 300 (by decide +kernel) (by decide) (fun _ => ?_) (fun h => absurd rfl h)
  refine pm_s_iload (a := 6) (by decide +kernel) rfl ?_
  refine pm_if_ne (off := 15) 317 (by decide +kernel) (by decide) (fun _ => back) (fun h0 => ?_)
  refine pm_s_aload_n (j := 3) (by decide +kernel) rfl rfl ?_
  refine pm_s_iconst (z := 0) (v := 0) rfl (by decide +kernel) ?_
  refine pm_s_lald (r := 55) (n := 1) rfl (by unfold vp_in; decide) (by decide +kernel) ?_
  rw [show (0 : Int32).toNatClampNeg = 0 from by decide, hout h0]
  refine pm_s_iload (a := 7) (by decide +kernel) rfl ?_
  refine pm_s_i2l (by decide +kernel) ?_
  refine pm_s_lcmp0 (by decide +kernel) ?_
  refine pm_if_eq (off := 5) 317 (by decide +kernel) (by decide) (fun _ => back) (fun h => absurd rfl h)
set_option maxHeartbeats 4000000 in
set_option maxRecDepth 100000 in
theorem la_addWalk {P : Option Value → pm_Mm → Prop} {X : String → pm_Mm → Prop} {L : Nat} {xs : Nat → Int32} {kc ks i : Nat} (hi : i + 5 < L) (hL : L ≤ 3072) (h1 : kc + 32 ≤ 600000) (h2 : ks + 1000 ≤ 7000000) (μ : pm_Mm) (hV : lr_V μ.1) (K : ∀ M2 : pm_Mm, lr_V M2.1 → pm_V mi_L_law (P, X, lr_Z L xs) (kc + 32) (ks + 1000) 2255 [some (.ref 1000), some (.ref 0), some (.ref 47), some (.ref 55), some (.ref 56), some (.int (nI i)), none, none, none] [] M2) : pm_V mi_L_law (P, X, lr_Z L xs) kc ks 320 [some (.ref 1000), some (.ref 0), some (.ref 47), some (.ref 55), some (.ref 56), some (.int (nI i)), none, none, none] [] μ := by
  have g1 : kc ≤ 600000 := by omega
  have g2 : ks ≤ 7000000 := by omega
  refine pm_s_aload_n (j := 1) (by decide +kernel) rfl rfl ?_
  refine pm_s_arg (i := i) (j := 1) (kk := 1) rfl rfl rfl (by omega) hL (by decide +kernel) (by decide +kernel) (by decide +kernel) (by decide +kernel) (by decide +kernel) ?_
  refine pm_s_arg (i := i) (j := 2) (kk := 2) rfl rfl rfl (by omega) hL (by decide +kernel) (by decide +kernel) (by decide +kernel) (by decide +kernel) (by decide +kernel) ?_
  refine pm_s_arg (i := i) (j := 3) (kk := 3) rfl rfl rfl (by omega) hL (by decide +kernel) (by decide +kernel) (by decide +kernel) (by decide +kernel) (by decide +kernel) ?_
  refine pm_s_arg (i := i) (j := 4) (kk := 4) rfl rfl rfl (by omega) hL (by decide +kernel) (by decide +kernel) (by decide +kernel) (by decide +kernel) (by decide +kernel) ?_
  refine pm_s_arg (i := i) (j := 5) (kk := 5) rfl rfl rfl (by omega) hL (by decide +kernel) (by decide +kernel) (by decide +kernel) (by decide +kernel) (by decide +kernel) ?_
  refine pm_s_aload_n (j := 3) (by decide +kernel) rfl rfl ?_
  refine pm_callSH mi_L_addWalk (ix := 142) (n := 7) (As := [.ref 0, .int (xs (i + 1)), .int (xs (i + 2)), .int (xs (i + 3)), .int (xs (i + 4)), .int (xs (i + 5)), .ref 55]) (rest := []) (st_addWalk _ _ _ _ _ _ hV) cal_L_addWalk lk11_142 (lr_fit (by decide) g1 g2) rfl (by decide +kernel) rfl rfl (by decide) (fun _ _ h => h.elim) ?_
  rintro _ M ⟨k, rfl, hM⟩
  refine pm_V.grow (kc' := kc + 32) (ks' := ks + 1000) (Nat.add_le_add_left (by decide) _) (Nat.add_le_add_left (by decide) _) ?_
  show pm_V mi_L_law _ _ _ 355 [some (.ref 1000), some (.ref 0), some (.ref 47), some (.ref 55), some (.ref 56), some (.int (nI i)), none, none, none] [.int k] M
  refine pm_s_istore (a := 6) (by decide +kernel) (by decide) rfl (Nat.le_of_ble_eq_true rfl) ?_
  show pm_V mi_L_law _ _ _ 357 [some (.ref 1000), some (.ref 0), some (.ref 47), some (.ref 55), some (.ref 56), some (.int (nI i)), some (.int k), none, none] [] _
  refine pm_s_aload_n (j := 2) (by decide +kernel) rfl rfl ?_
  refine pm_s_arg (i := i) (j := 1) (kk := 1) rfl rfl rfl (by omega) hL (by decide +kernel) (by decide +kernel) (by decide +kernel) (by decide +kernel) (by decide +kernel) ?_
  refine pm_s_arg (i := i) (j := 2) (kk := 2) rfl rfl rfl (by omega) hL (by decide +kernel) (by decide +kernel) (by decide +kernel) (by decide +kernel) (by decide +kernel) ?_
  refine pm_s_arg (i := i) (j := 3) (kk := 3) rfl rfl rfl (by omega) hL (by decide +kernel) (by decide +kernel) (by decide +kernel) (by decide +kernel) (by decide +kernel) ?_
  refine pm_s_arg (i := i) (j := 4) (kk := 4) rfl rfl rfl (by omega) hL (by decide +kernel) (by decide +kernel) (by decide +kernel) (by decide +kernel) (by decide +kernel) ?_
  refine pm_s_arg (i := i) (j := 5) (kk := 5) rfl rfl rfl (by omega) hL (by decide +kernel) (by decide +kernel) (by decide +kernel) (by decide +kernel) (by decide +kernel) ?_
  refine pm_callV2 mi_X10_addWalk (ix := 145) (b := 47) (ci := 10) (kc2 := kc + 32) (ks2 := ks + 1000) (As := [.int (xs (i + 1)), .int (xs (i + 2)), .int (xs (i + 3)), .int (xs (i + 4)), .int (xs (i + 5))]) (rest := []) hM cal_X10_addWalk lk11_145 (lr_fit (by decide) h1 h2) rfl (by decide +kernel) rfl rfl rfl rfl (Nat.le_of_ble_eq_true rfl) (Nat.le_refl _) (Nat.le_refl _) (fun _ _ h9 => h9.elim) ?_
  rintro _ M2 ⟨y, rfl, h7, hout, hV2⟩
  refine pm_s_istore (a := 7) (by decide +kernel) (by decide) rfl (Nat.le_of_ble_eq_true rfl) ?_
  show pm_V mi_L_law _ _ _ 393 [some (.ref 1000), some (.ref 0), some (.ref 47), some (.ref 55), some (.ref 56), some (.int (nI i)), some (.int k), some (.int y), none] [] _
  refine pm_s_aload_n (j := 2) (by decide +kernel) rfl rfl ?_
  refine pm_callV2 mi_X10_thrown (ix := 135) (b := 47) (ci := 10) (kc2 := kc + 32) (ks2 := ks + 1000) (As := []) (rest := []) (c_X10_thrown M2) cal_X10_thrown lk11_135 (lr_fit (by decide) h1 h2) rfl (by decide +kernel) rfl rfl rfl rfl (Nat.le_of_ble_eq_true rfl) (Nat.le_refl _) (Nat.le_refl _) (fun _ _ h9 => h9.elim) ?_
  rintro _ _ ⟨rfl, h9⟩; rw [h9]; clear h9
  rw [h7]
  show pm_V mi_L_law _ _ _ 397 [some (.ref 1000), some (.ref 0), some (.ref 47), some (.ref 55), some (.ref 56), some (.int (nI i)), some (.int k), some (.int y), none] [.int k] M2
  have back : pm_V mi_L_law (P, X, lr_Z L xs) (kc + 32) (ks + 1000) 421 [some (.ref 1000), some (.ref 0), some (.ref 47), some (.ref 55), some (.ref 56), some (.int (nI i)), some (.int k), some (.int y), none] [] M2 := pm_s_goto (off := 1834) (tgt := 2255) (by decide +kernel) (by decide) (pm_V.drop (lo' := [some (.ref 1000), some (.ref 0), some (.ref 47), some (.ref 55), some (.ref 56), some (.int (nI i)), none, none, none]) ⟨rfl, rfl, rfl, rfl, rfl, rfl, trivial⟩ (K M2 hV2))
  refine pm_s_iload (a := 6) (by decide +kernel) rfl ?_
  refine pm_icmp_eq (off := 5) 404 (by decide +kernel) (by decide) (fun _ => ?_) (fun h => absurd rfl h)
  refine pm_s_iload (a := 6) (by decide +kernel) rfl ?_
  refine pm_if_ne (off := 15) 421 (by decide +kernel) (by decide) (fun _ => back) (fun h0 => ?_)
  refine pm_s_aload_n (j := 3) (by decide +kernel) rfl rfl ?_
  refine pm_s_iconst (z := 0) (v := 0) rfl (by decide +kernel) ?_
  refine pm_s_lald (r := 55) (n := 1) rfl (by unfold vp_in; decide) (by decide +kernel) ?_
  rw [show (0 : Int32).toNatClampNeg = 0 from by decide, hout h0]
  refine pm_s_iload (a := 7) (by decide +kernel) rfl ?_
  refine pm_s_i2l (by decide +kernel) ?_
  refine pm_s_lcmp0 (by decide +kernel) ?_
  refine pm_if_eq (off := 5) 421 (by decide +kernel) (by decide) (fun _ => back) (fun h => absurd rfl h)
set_option maxHeartbeats 4000000 in
set_option maxRecDepth 100000 in
theorem la_walkOf {P : Option Value → pm_Mm → Prop} {X : String → pm_Mm → Prop} {L : Nat} {xs : Nat → Int32} {kc ks i : Nat} (hi : i + 5 < L) (hL : L ≤ 3072) (h1 : kc + 32 ≤ 600000) (h2 : ks + 1000 ≤ 7000000) (μ : pm_Mm) (hV : lr_V μ.1) (K : ∀ M2 : pm_Mm, lr_V M2.1 → pm_V mi_L_law (P, X, lr_Z L xs) (kc + 32) (ks + 1000) 2255 [some (.ref 1000), some (.ref 0), some (.ref 47), some (.ref 55), some (.ref 56), some (.int (nI i)), none, none, none] [] M2) : pm_V mi_L_law (P, X, lr_Z L xs) kc ks 424 [some (.ref 1000), some (.ref 0), some (.ref 47), some (.ref 55), some (.ref 56), some (.int (nI i)), none, none, none] [] μ := by
  have g1 : kc ≤ 600000 := by omega
  have g2 : ks ≤ 7000000 := by omega
  refine pm_s_aload_n (j := 1) (by decide +kernel) rfl rfl ?_
  refine pm_s_arg (i := i) (j := 1) (kk := 1) rfl rfl rfl (by omega) hL (by decide +kernel) (by decide +kernel) (by decide +kernel) (by decide +kernel) (by decide +kernel) ?_
  refine pm_s_aload_n (j := 3) (by decide +kernel) rfl rfl ?_
  refine pm_callSH mi_L_walkOf (ix := 146) (n := 3) (As := [.ref 0, .int (xs (i + 1)), .ref 55]) (rest := []) (st_walkOf _ _ hV) cal_L_walkOf lk11_146 (lr_fit (by decide) g1 g2) rfl (by decide +kernel) rfl rfl (by decide) (fun _ _ h => h.elim) ?_
  rintro _ M ⟨k, rfl, hM⟩
  refine pm_V.grow (kc' := kc + 32) (ks' := ks + 1000) (Nat.add_le_add_left (by decide) _) (Nat.add_le_add_left (by decide) _) ?_
  show pm_V mi_L_law _ _ _ 435 [some (.ref 1000), some (.ref 0), some (.ref 47), some (.ref 55), some (.ref 56), some (.int (nI i)), none, none, none] [.int k] M
  refine pm_s_istore (a := 6) (by decide +kernel) (by decide) rfl (Nat.le_of_ble_eq_true rfl) ?_
  show pm_V mi_L_law _ _ _ 437 [some (.ref 1000), some (.ref 0), some (.ref 47), some (.ref 55), some (.ref 56), some (.int (nI i)), some (.int k), none, none] [] _
  refine pm_s_aload_n (j := 2) (by decide +kernel) rfl rfl ?_
  refine pm_s_arg (i := i) (j := 1) (kk := 1) rfl rfl rfl (by omega) hL (by decide +kernel) (by decide +kernel) (by decide +kernel) (by decide +kernel) (by decide +kernel) ?_
  refine pm_callV2 mi_X10_walkOf (ix := 148) (b := 47) (ci := 10) (kc2 := kc + 32) (ks2 := ks + 1000) (As := [.int (xs (i + 1))]) (rest := []) hM cal_X10_walkOf lk11_148 (lr_fit (by decide) h1 h2) rfl (by decide +kernel) rfl rfl rfl rfl (Nat.le_of_ble_eq_true rfl) (Nat.le_refl _) (Nat.le_refl _) (fun _ _ h9 => h9.elim) ?_
  rintro _ M2 ⟨y, rfl, h7, hout, hV2⟩
  refine pm_s_istore (a := 7) (by decide +kernel) (by decide) rfl (Nat.le_of_ble_eq_true rfl) ?_
  show pm_V mi_L_law _ _ _ 449 [some (.ref 1000), some (.ref 0), some (.ref 47), some (.ref 55), some (.ref 56), some (.int (nI i)), some (.int k), some (.int y), none] [] _
  refine pm_s_aload_n (j := 2) (by decide +kernel) rfl rfl ?_
  refine pm_callV2 mi_X10_thrown (ix := 135) (b := 47) (ci := 10) (kc2 := kc + 32) (ks2 := ks + 1000) (As := []) (rest := []) (c_X10_thrown M2) cal_X10_thrown lk11_135 (lr_fit (by decide) h1 h2) rfl (by decide +kernel) rfl rfl rfl rfl (Nat.le_of_ble_eq_true rfl) (Nat.le_refl _) (Nat.le_refl _) (fun _ _ h9 => h9.elim) ?_
  rintro _ _ ⟨rfl, h9⟩; rw [h9]; clear h9
  rw [h7]
  show pm_V mi_L_law _ _ _ 453 [some (.ref 1000), some (.ref 0), some (.ref 47), some (.ref 55), some (.ref 56), some (.int (nI i)), some (.int k), some (.int y), none] [.int k] M2
  have back : pm_V mi_L_law (P, X, lr_Z L xs) (kc + 32) (ks + 1000) 477 [some (.ref 1000), some (.ref 0), some (.ref 47), some (.ref 55), some (.ref 56), some (.int (nI i)), some (.int k), some (.int y), none] [] M2 := pm_s_goto (off := 1778) (tgt := 2255) (by decide +kernel) (by decide) (pm_V.drop (lo' := [some (.ref 1000), some (.ref 0), some (.ref 47), some (.ref 55), some (.ref 56), some (.int (nI i)), none, none, none]) ⟨rfl, rfl, rfl, rfl, rfl, rfl, trivial⟩ (K M2 hV2))
  refine pm_s_iload (a := 6) (by decide +kernel) rfl ?_
  refine pm_icmp_eq (off := 5) 460 (by decide +kernel) (by decide) (fun _ => ?_) (fun h => absurd rfl h)
  refine pm_s_iload (a := 6) (by decide +kernel) rfl ?_
  refine pm_if_ne (off := 15) 477 (by decide +kernel) (by decide) (fun _ => back) (fun h0 => ?_)
  refine pm_s_aload_n (j := 3) (by decide +kernel) rfl rfl ?_
  refine pm_s_iconst (z := 0) (v := 0) rfl (by decide +kernel) ?_
  refine pm_s_lald (r := 55) (n := 1) rfl (by unfold vp_in; decide) (by decide +kernel) ?_
  rw [show (0 : Int32).toNatClampNeg = 0 from by decide, hout h0]
  refine pm_s_iload (a := 7) (by decide +kernel) rfl ?_
  refine pm_s_i2l (by decide +kernel) ?_
  refine pm_s_lcmp0 (by decide +kernel) ?_
  refine pm_if_eq (off := 5) 477 (by decide +kernel) (by decide) (fun _ => back) (fun h => absurd rfl h)
set_option maxHeartbeats 4000000 in
set_option maxRecDepth 100000 in
theorem la_stop {P : Option Value → pm_Mm → Prop} {X : String → pm_Mm → Prop} {L : Nat} {xs : Nat → Int32} {kc ks i : Nat} (hi : i + 5 < L) (hL : L ≤ 3072) (h1 : kc + 32 ≤ 600000) (h2 : ks + 1000 ≤ 7000000) (μ : pm_Mm) (hV : lr_V μ.1) (K : ∀ M2 : pm_Mm, lr_V M2.1 → pm_V mi_L_law (P, X, lr_Z L xs) (kc + 32) (ks + 1000) 2255 [some (.ref 1000), some (.ref 0), some (.ref 47), some (.ref 55), some (.ref 56), some (.int (nI i)), none, none, none] [] M2) : pm_V mi_L_law (P, X, lr_Z L xs) kc ks 480 [some (.ref 1000), some (.ref 0), some (.ref 47), some (.ref 55), some (.ref 56), some (.int (nI i)), none, none, none] [] μ := by
  have g1 : kc ≤ 600000 := by omega
  have g2 : ks ≤ 7000000 := by omega
  refine pm_s_aload_n (j := 1) (by decide +kernel) rfl rfl ?_
  refine pm_s_arg (i := i) (j := 1) (kk := 1) rfl rfl rfl (by omega) hL (by decide +kernel) (by decide +kernel) (by decide +kernel) (by decide +kernel) (by decide +kernel) ?_
  refine pm_s_arg (i := i) (j := 2) (kk := 2) rfl rfl rfl (by omega) hL (by decide +kernel) (by decide +kernel) (by decide +kernel) (by decide +kernel) (by decide +kernel) ?_
  refine pm_s_aload_n (j := 3) (by decide +kernel) rfl rfl ?_
  refine pm_callSH mi_L_stop (ix := 149) (n := 4) (As := [.ref 0, .int (xs (i + 1)), .int (xs (i + 2)), .ref 55]) (rest := []) (st_stop _ _ _ hV) cal_L_stop lk11_149 (lr_fit (by decide) g1 g2) rfl (by decide +kernel) rfl rfl (by decide) (fun _ _ h => h.elim) ?_
  rintro _ M ⟨k, rfl, hM⟩
  refine pm_V.grow (kc' := kc + 32) (ks' := ks + 1000) (Nat.add_le_add_left (by decide) _) (Nat.add_le_add_left (by decide) _) ?_
  show pm_V mi_L_law _ _ _ 497 [some (.ref 1000), some (.ref 0), some (.ref 47), some (.ref 55), some (.ref 56), some (.int (nI i)), none, none, none] [.int k] M
  refine pm_s_istore (a := 6) (by decide +kernel) (by decide) rfl (Nat.le_of_ble_eq_true rfl) ?_
  show pm_V mi_L_law _ _ _ 499 [some (.ref 1000), some (.ref 0), some (.ref 47), some (.ref 55), some (.ref 56), some (.int (nI i)), some (.int k), none, none] [] _
  refine pm_s_aload_n (j := 2) (by decide +kernel) rfl rfl ?_
  refine pm_s_arg (i := i) (j := 1) (kk := 1) rfl rfl rfl (by omega) hL (by decide +kernel) (by decide +kernel) (by decide +kernel) (by decide +kernel) (by decide +kernel) ?_
  refine pm_s_arg (i := i) (j := 2) (kk := 2) rfl rfl rfl (by omega) hL (by decide +kernel) (by decide +kernel) (by decide +kernel) (by decide +kernel) (by decide +kernel) ?_
  refine pm_callV2 mi_X10_stop (ix := 151) (b := 47) (ci := 10) (kc2 := kc + 32) (ks2 := ks + 1000) (As := [.int (xs (i + 1)), .int (xs (i + 2))]) (rest := []) hM cal_X10_stop lk11_151 (lr_fit (by decide) h1 h2) rfl (by decide +kernel) rfl rfl rfl rfl (Nat.le_of_ble_eq_true rfl) (Nat.le_refl _) (Nat.le_refl _) (fun _ _ h9 => h9.elim) ?_
  rintro _ M2 ⟨y, rfl, h7, hout, hV2⟩
  refine pm_s_istore (a := 7) (by decide +kernel) (by decide) rfl (Nat.le_of_ble_eq_true rfl) ?_
  show pm_V mi_L_law _ _ _ 517 [some (.ref 1000), some (.ref 0), some (.ref 47), some (.ref 55), some (.ref 56), some (.int (nI i)), some (.int k), some (.int y), none] [] _
  refine pm_s_aload_n (j := 2) (by decide +kernel) rfl rfl ?_
  refine pm_callV2 mi_X10_thrown (ix := 135) (b := 47) (ci := 10) (kc2 := kc + 32) (ks2 := ks + 1000) (As := []) (rest := []) (c_X10_thrown M2) cal_X10_thrown lk11_135 (lr_fit (by decide) h1 h2) rfl (by decide +kernel) rfl rfl rfl rfl (Nat.le_of_ble_eq_true rfl) (Nat.le_refl _) (Nat.le_refl _) (fun _ _ h9 => h9.elim) ?_
  rintro _ _ ⟨rfl, h9⟩; rw [h9]; clear h9
  rw [h7]
  show pm_V mi_L_law _ _ _ 521 [some (.ref 1000), some (.ref 0), some (.ref 47), some (.ref 55), some (.ref 56), some (.int (nI i)), some (.int k), some (.int y), none] [.int k] M2
  have back : pm_V mi_L_law (P, X, lr_Z L xs) (kc + 32) (ks + 1000) 545 [some (.ref 1000), some (.ref 0), some (.ref 47), some (.ref 55), some (.ref 56), some (.int (nI i)), some (.int k), some (.int y), none] [] M2 := pm_s_goto (off := 1710) (tgt := 2255) (by decide +kernel) (by decide) (pm_V.drop (lo' := [some (.ref 1000), some (.ref 0), some (.ref 47), some (.ref 55), some (.ref 56), some (.int (nI i)), none, none, none]) ⟨rfl, rfl, rfl, rfl, rfl, rfl, trivial⟩ (K M2 hV2))
  refine pm_s_iload (a := 6) (by decide +kernel) rfl ?_
  refine pm_icmp_eq (off := 5) 528 (by decide +kernel) (by decide) (fun _ => ?_) (fun h => absurd rfl h)
  refine pm_s_iload (a := 6) (by decide +kernel) rfl ?_
  refine pm_if_ne (off := 15) 545 (by decide +kernel) (by decide) (fun _ => back) (fun h0 => ?_)
  refine pm_s_aload_n (j := 3) (by decide +kernel) rfl rfl ?_
  refine pm_s_iconst (z := 0) (v := 0) rfl (by decide +kernel) ?_
  refine pm_s_lald (r := 55) (n := 1) rfl (by unfold vp_in; decide) (by decide +kernel) ?_
  rw [show (0 : Int32).toNatClampNeg = 0 from by decide, hout h0]
  refine pm_s_iload (a := 7) (by decide +kernel) rfl ?_
  refine pm_s_i2l (by decide +kernel) ?_
  refine pm_s_lcmp0 (by decide +kernel) ?_
  refine pm_if_eq (off := 5) 545 (by decide +kernel) (by decide) (fun _ => back) (fun h => absurd rfl h)
set_option maxHeartbeats 4000000 in
set_option maxRecDepth 100000 in
theorem la_allow_0 {P : Option Value → pm_Mm → Prop} {X : String → pm_Mm → Prop} {L : Nat} {xs : Nat → Int32} {kc ks i : Nat} (hi : i + 5 < L) (hL : L ≤ 3072) (h1 : kc + 32 ≤ 600000) (h2 : ks + 1000 ≤ 7000000) (μ : pm_Mm) (hV : lr_V μ.1) (hz : xs (i + 3) = 0) (K : ∀ M2 : pm_Mm, lr_V M2.1 → pm_V mi_L_law (P, X, lr_Z L xs) (kc + 32) (ks + 1000) 2255 [some (.ref 1000), some (.ref 0), some (.ref 47), some (.ref 55), some (.ref 56), some (.int (nI i)), none, none, none] [] M2) : pm_V mi_L_law (P, X, lr_Z L xs) kc ks 992 [some (.ref 1000), some (.ref 0), some (.ref 47), some (.ref 55), some (.ref 56), some (.int (nI i)), none, none, none] [] μ := by
  have g1 : kc ≤ 600000 := by omega
  have g2 : ks ≤ 7000000 := by omega
  refine pm_s_aload_n (j := 1) (by decide +kernel) rfl rfl ?_
  refine pm_s_arg (i := i) (j := 1) (kk := 1) rfl rfl rfl (by omega) hL (by decide +kernel) (by decide +kernel) (by decide +kernel) (by decide +kernel) (by decide +kernel) ?_
  refine pm_s_arg (i := i) (j := 2) (kk := 2) rfl rfl rfl (by omega) hL (by decide +kernel) (by decide +kernel) (by decide +kernel) (by decide +kernel) (by decide +kernel) ?_
  refine pm_s_arg (i := i) (j := 3) (kk := 3) rfl rfl rfl (by omega) hL (by decide +kernel) (by decide +kernel) (by decide +kernel) (by decide +kernel) (by decide +kernel) ?_
  refine pm_if_eq (off := 7) 1018 (by decide +kernel) (by decide) (fun _ => ?_) (fun h => absurd hz h)
  refine pm_s_iconst (z := 0) (v := 0) rfl (by decide +kernel) ?_
  refine pm_s_aload_n (j := 3) (by decide +kernel) rfl rfl ?_
  refine pm_callSH mi_L_allow (ix := 172) (n := 5) (As := [.ref 0, .int (xs (i + 1)), .int (xs (i + 2)), .int (0), .ref 55]) (rest := []) (st_allow _ _ _ _ hV) cal_L_allow lk11_172 (lr_fit (by decide) g1 g2) rfl (by decide +kernel) rfl rfl (by decide) (fun _ _ h => h.elim) ?_
  rintro _ M ⟨k, rfl, hM⟩
  refine pm_V.grow (kc' := kc + 32) (ks' := ks + 1000) (Nat.add_le_add_left (by decide) _) (Nat.add_le_add_left (by decide) _) ?_
  show pm_V mi_L_law _ _ _ 1023 [some (.ref 1000), some (.ref 0), some (.ref 47), some (.ref 55), some (.ref 56), some (.int (nI i)), none, none, none] [.int k] M
  refine pm_s_istore (a := 6) (by decide +kernel) (by decide) rfl (Nat.le_of_ble_eq_true rfl) ?_
  show pm_V mi_L_law _ _ _ 1025 [some (.ref 1000), some (.ref 0), some (.ref 47), some (.ref 55), some (.ref 56), some (.int (nI i)), some (.int k), none, none] [] _
  refine pm_s_aload_n (j := 2) (by decide +kernel) rfl rfl ?_
  refine pm_s_arg (i := i) (j := 1) (kk := 1) rfl rfl rfl (by omega) hL (by decide +kernel) (by decide +kernel) (by decide +kernel) (by decide +kernel) (by decide +kernel) ?_
  refine pm_s_arg (i := i) (j := 2) (kk := 2) rfl rfl rfl (by omega) hL (by decide +kernel) (by decide +kernel) (by decide +kernel) (by decide +kernel) (by decide +kernel) ?_
  refine pm_s_arg (i := i) (j := 3) (kk := 3) rfl rfl rfl (by omega) hL (by decide +kernel) (by decide +kernel) (by decide +kernel) (by decide +kernel) (by decide +kernel) ?_
  refine pm_if_eq (off := 7) 1051 (by decide +kernel) (by decide) (fun _ => ?_) (fun h => absurd hz h)
  refine pm_s_iconst (z := 0) (v := 0) rfl (by decide +kernel) ?_
  refine pm_callV2 mi_X10_allow (ix := 175) (b := 47) (ci := 10) (kc2 := kc + 32) (ks2 := ks + 1000) (As := [.int (xs (i + 1)), .int (xs (i + 2)), .int (0)]) (rest := []) hM cal_X10_allow lk11_175 (lr_fit (by decide) h1 h2) rfl (by decide +kernel) rfl rfl rfl rfl (Nat.le_of_ble_eq_true rfl) (Nat.le_refl _) (Nat.le_refl _) (fun _ _ h9 => h9.elim) ?_
  rintro _ M2 ⟨y, rfl, h7, hout, hV2⟩
  refine pm_s_istore (a := 7) (by decide +kernel) (by decide) rfl (Nat.le_of_ble_eq_true rfl) ?_
  show pm_V mi_L_law _ _ _ 1057 [some (.ref 1000), some (.ref 0), some (.ref 47), some (.ref 55), some (.ref 56), some (.int (nI i)), some (.int k), some (.int y), none] [] _
  refine pm_s_aload_n (j := 2) (by decide +kernel) rfl rfl ?_
  refine pm_callV2 mi_X10_thrown (ix := 135) (b := 47) (ci := 10) (kc2 := kc + 32) (ks2 := ks + 1000) (As := []) (rest := []) (c_X10_thrown M2) cal_X10_thrown lk11_135 (lr_fit (by decide) h1 h2) rfl (by decide +kernel) rfl rfl rfl rfl (Nat.le_of_ble_eq_true rfl) (Nat.le_refl _) (Nat.le_refl _) (fun _ _ h9 => h9.elim) ?_
  rintro _ _ ⟨rfl, h9⟩; rw [h9]; clear h9
  rw [h7]
  show pm_V mi_L_law _ _ _ 1061 [some (.ref 1000), some (.ref 0), some (.ref 47), some (.ref 55), some (.ref 56), some (.int (nI i)), some (.int k), some (.int y), none] [.int k] M2
  have back : pm_V mi_L_law (P, X, lr_Z L xs) (kc + 32) (ks + 1000) 1092 [some (.ref 1000), some (.ref 0), some (.ref 47), some (.ref 55), some (.ref 56), some (.int (nI i)), some (.int k), some (.int y), none] [] M2 := pm_s_goto (off := 1163) (tgt := 2255) (by decide +kernel) (by decide) (pm_V.drop (lo' := [some (.ref 1000), some (.ref 0), some (.ref 47), some (.ref 55), some (.ref 56), some (.int (nI i)), none, none, none]) ⟨rfl, rfl, rfl, rfl, rfl, rfl, trivial⟩ (K M2 hV2))
  refine pm_s_iload (a := 6) (by decide +kernel) rfl ?_
  refine pm_icmp_eq (off := 5) 1068 (by decide +kernel) (by decide) (fun _ => ?_) (fun h => absurd rfl h)
  refine pm_s_iload (a := 6) (by decide +kernel) rfl ?_
  refine pm_if_ne (off := 22) 1092 (by decide +kernel) (by decide) (fun _ => back) (fun h0 => ?_)
  refine pm_s_aload_n (j := 3) (by decide +kernel) rfl rfl ?_
  refine pm_s_iconst (z := 0) (v := 0) rfl (by decide +kernel) ?_
  refine pm_s_lald (r := 55) (n := 1) rfl (by unfold vp_in; decide) (by decide +kernel) ?_
  rw [show (0 : Int32).toNatClampNeg = 0 from by decide, hout h0]
  refine pm_s_iload (a := 7) (by decide +kernel) rfl ?_
  refine pm_if_eq (off := 7) 1085 (by decide +kernel) (by decide) (fun hy => ?_) (fun hy => ?_)
  · rw [if_pos hy]
    refine pm_s_lconst0 (by decide +kernel) ?_
    refine pm_s_lcmp0 (by decide +kernel) ?_
    refine pm_if_eq (off := 5) 1092 (by decide +kernel) (by decide) (fun _ => back) (fun h => absurd rfl h)
  · rw [if_neg hy]
    refine pm_s_lconst1 (by decide +kernel) ?_
    refine pm_s_goto (off := 4) (tgt := 1086) (by decide +kernel) (by decide) ?_
    refine pm_s_lcmp0 (by decide +kernel) ?_
    refine pm_if_eq (off := 5) 1092 (by decide +kernel) (by decide) (fun _ => back) (fun h => absurd rfl h)
set_option maxHeartbeats 4000000 in
set_option maxRecDepth 100000 in
theorem la_allow_1 {P : Option Value → pm_Mm → Prop} {X : String → pm_Mm → Prop} {L : Nat} {xs : Nat → Int32} {kc ks i : Nat} (hi : i + 5 < L) (hL : L ≤ 3072) (h1 : kc + 32 ≤ 600000) (h2 : ks + 1000 ≤ 7000000) (μ : pm_Mm) (hV : lr_V μ.1) (hz : ¬ xs (i + 3) = 0) (K : ∀ M2 : pm_Mm, lr_V M2.1 → pm_V mi_L_law (P, X, lr_Z L xs) (kc + 32) (ks + 1000) 2255 [some (.ref 1000), some (.ref 0), some (.ref 47), some (.ref 55), some (.ref 56), some (.int (nI i)), none, none, none] [] M2) : pm_V mi_L_law (P, X, lr_Z L xs) kc ks 992 [some (.ref 1000), some (.ref 0), some (.ref 47), some (.ref 55), some (.ref 56), some (.int (nI i)), none, none, none] [] μ := by
  have g1 : kc ≤ 600000 := by omega
  have g2 : ks ≤ 7000000 := by omega
  refine pm_s_aload_n (j := 1) (by decide +kernel) rfl rfl ?_
  refine pm_s_arg (i := i) (j := 1) (kk := 1) rfl rfl rfl (by omega) hL (by decide +kernel) (by decide +kernel) (by decide +kernel) (by decide +kernel) (by decide +kernel) ?_
  refine pm_s_arg (i := i) (j := 2) (kk := 2) rfl rfl rfl (by omega) hL (by decide +kernel) (by decide +kernel) (by decide +kernel) (by decide +kernel) (by decide +kernel) ?_
  refine pm_s_arg (i := i) (j := 3) (kk := 3) rfl rfl rfl (by omega) hL (by decide +kernel) (by decide +kernel) (by decide +kernel) (by decide +kernel) (by decide +kernel) ?_
  refine pm_if_eq (off := 7) 1018 (by decide +kernel) (by decide) (fun h => absurd h hz) (fun _ => ?_)
  refine pm_s_iconst (z := 1) (v := 1) rfl (by decide +kernel) ?_
  refine pm_s_goto (off := 4) (tgt := 1019) (by decide +kernel) (by decide) ?_
  refine pm_s_aload_n (j := 3) (by decide +kernel) rfl rfl ?_
  refine pm_callSH mi_L_allow (ix := 172) (n := 5) (As := [.ref 0, .int (xs (i + 1)), .int (xs (i + 2)), .int (1), .ref 55]) (rest := []) (st_allow _ _ _ _ hV) cal_L_allow lk11_172 (lr_fit (by decide) g1 g2) rfl (by decide +kernel) rfl rfl (by decide) (fun _ _ h => h.elim) ?_
  rintro _ M ⟨k, rfl, hM⟩
  refine pm_V.grow (kc' := kc + 32) (ks' := ks + 1000) (Nat.add_le_add_left (by decide) _) (Nat.add_le_add_left (by decide) _) ?_
  show pm_V mi_L_law _ _ _ 1023 [some (.ref 1000), some (.ref 0), some (.ref 47), some (.ref 55), some (.ref 56), some (.int (nI i)), none, none, none] [.int k] M
  refine pm_s_istore (a := 6) (by decide +kernel) (by decide) rfl (Nat.le_of_ble_eq_true rfl) ?_
  show pm_V mi_L_law _ _ _ 1025 [some (.ref 1000), some (.ref 0), some (.ref 47), some (.ref 55), some (.ref 56), some (.int (nI i)), some (.int k), none, none] [] _
  refine pm_s_aload_n (j := 2) (by decide +kernel) rfl rfl ?_
  refine pm_s_arg (i := i) (j := 1) (kk := 1) rfl rfl rfl (by omega) hL (by decide +kernel) (by decide +kernel) (by decide +kernel) (by decide +kernel) (by decide +kernel) ?_
  refine pm_s_arg (i := i) (j := 2) (kk := 2) rfl rfl rfl (by omega) hL (by decide +kernel) (by decide +kernel) (by decide +kernel) (by decide +kernel) (by decide +kernel) ?_
  refine pm_s_arg (i := i) (j := 3) (kk := 3) rfl rfl rfl (by omega) hL (by decide +kernel) (by decide +kernel) (by decide +kernel) (by decide +kernel) (by decide +kernel) ?_
  refine pm_if_eq (off := 7) 1051 (by decide +kernel) (by decide) (fun h => absurd h hz) (fun _ => ?_)
  refine pm_s_iconst (z := 1) (v := 1) rfl (by decide +kernel) ?_
  refine pm_s_goto (off := 4) (tgt := 1052) (by decide +kernel) (by decide) ?_
  refine pm_callV2 mi_X10_allow (ix := 175) (b := 47) (ci := 10) (kc2 := kc + 32) (ks2 := ks + 1000) (As := [.int (xs (i + 1)), .int (xs (i + 2)), .int (1)]) (rest := []) hM cal_X10_allow lk11_175 (lr_fit (by decide) h1 h2) rfl (by decide +kernel) rfl rfl rfl rfl (Nat.le_of_ble_eq_true rfl) (Nat.le_refl _) (Nat.le_refl _) (fun _ _ h9 => h9.elim) ?_
  rintro _ M2 ⟨y, rfl, h7, hout, hV2⟩
  refine pm_s_istore (a := 7) (by decide +kernel) (by decide) rfl (Nat.le_of_ble_eq_true rfl) ?_
  show pm_V mi_L_law _ _ _ 1057 [some (.ref 1000), some (.ref 0), some (.ref 47), some (.ref 55), some (.ref 56), some (.int (nI i)), some (.int k), some (.int y), none] [] _
  refine pm_s_aload_n (j := 2) (by decide +kernel) rfl rfl ?_
  refine pm_callV2 mi_X10_thrown (ix := 135) (b := 47) (ci := 10) (kc2 := kc + 32) (ks2 := ks + 1000) (As := []) (rest := []) (c_X10_thrown M2) cal_X10_thrown lk11_135 (lr_fit (by decide) h1 h2) rfl (by decide +kernel) rfl rfl rfl rfl (Nat.le_of_ble_eq_true rfl) (Nat.le_refl _) (Nat.le_refl _) (fun _ _ h9 => h9.elim) ?_
  rintro _ _ ⟨rfl, h9⟩; rw [h9]; clear h9
  rw [h7]
  show pm_V mi_L_law _ _ _ 1061 [some (.ref 1000), some (.ref 0), some (.ref 47), some (.ref 55), some (.ref 56), some (.int (nI i)), some (.int k), some (.int y), none] [.int k] M2
  have back : pm_V mi_L_law (P, X, lr_Z L xs) (kc + 32) (ks + 1000) 1092 [some (.ref 1000), some (.ref 0), some (.ref 47), some (.ref 55), some (.ref 56), some (.int (nI i)), some (.int k), some (.int y), none] [] M2 := pm_s_goto (off := 1163) (tgt := 2255) (by decide +kernel) (by decide) (pm_V.drop (lo' := [some (.ref 1000), some (.ref 0), some (.ref 47), some (.ref 55), some (.ref 56), some (.int (nI i)), none, none, none]) ⟨rfl, rfl, rfl, rfl, rfl, rfl, trivial⟩ (K M2 hV2))
  refine pm_s_iload (a := 6) (by decide +kernel) rfl ?_
  refine pm_icmp_eq (off := 5) 1068 (by decide +kernel) (by decide) (fun _ => ?_) (fun h => absurd rfl h)
  refine pm_s_iload (a := 6) (by decide +kernel) rfl ?_
  refine pm_if_ne (off := 22) 1092 (by decide +kernel) (by decide) (fun _ => back) (fun h0 => ?_)
  refine pm_s_aload_n (j := 3) (by decide +kernel) rfl rfl ?_
  refine pm_s_iconst (z := 0) (v := 0) rfl (by decide +kernel) ?_
  refine pm_s_lald (r := 55) (n := 1) rfl (by unfold vp_in; decide) (by decide +kernel) ?_
  rw [show (0 : Int32).toNatClampNeg = 0 from by decide, hout h0]
  refine pm_s_iload (a := 7) (by decide +kernel) rfl ?_
  refine pm_if_eq (off := 7) 1085 (by decide +kernel) (by decide) (fun hy => ?_) (fun hy => ?_)
  · rw [if_pos hy]
    refine pm_s_lconst0 (by decide +kernel) ?_
    refine pm_s_lcmp0 (by decide +kernel) ?_
    refine pm_if_eq (off := 5) 1092 (by decide +kernel) (by decide) (fun _ => back) (fun h => absurd rfl h)
  · rw [if_neg hy]
    refine pm_s_lconst1 (by decide +kernel) ?_
    refine pm_s_goto (off := 4) (tgt := 1086) (by decide +kernel) (by decide) ?_
    refine pm_s_lcmp0 (by decide +kernel) ?_
    refine pm_if_eq (off := 5) 1092 (by decide +kernel) (by decide) (fun _ => back) (fun h => absurd rfl h)
set_option maxHeartbeats 4000000 in
set_option maxRecDepth 100000 in
theorem la_addLetter_0 {P : Option Value → pm_Mm → Prop} {X : String → pm_Mm → Prop} {L : Nat} {xs : Nat → Int32} {kc ks i : Nat} (hi : i + 5 < L) (hL : L ≤ 3072) (h1 : kc + 32 ≤ 600000) (h2 : ks + 1000 ≤ 7000000) (μ : pm_Mm) (hV : lr_V μ.1) (hz : xs (i + 3) = 0) (K : ∀ M2 : pm_Mm, lr_V M2.1 → pm_V mi_L_law (P, X, lr_Z L xs) (kc + 32) (ks + 1000) 2255 [some (.ref 1000), some (.ref 0), some (.ref 47), some (.ref 55), some (.ref 56), some (.int (nI i)), none, none, none] [] M2) : pm_V mi_L_law (P, X, lr_Z L xs) kc ks 1391 [some (.ref 1000), some (.ref 0), some (.ref 47), some (.ref 55), some (.ref 56), some (.int (nI i)), none, none, none] [] μ := by
  have g1 : kc ≤ 600000 := by omega
  have g2 : ks ≤ 7000000 := by omega
  refine pm_s_aload_n (j := 1) (by decide +kernel) rfl rfl ?_
  refine pm_s_arg (i := i) (j := 1) (kk := 1) rfl rfl rfl (by omega) hL (by decide +kernel) (by decide +kernel) (by decide +kernel) (by decide +kernel) (by decide +kernel) ?_
  refine pm_s_arg (i := i) (j := 2) (kk := 2) rfl rfl rfl (by omega) hL (by decide +kernel) (by decide +kernel) (by decide +kernel) (by decide +kernel) (by decide +kernel) ?_
  refine pm_s_arg (i := i) (j := 3) (kk := 3) rfl rfl rfl (by omega) hL (by decide +kernel) (by decide +kernel) (by decide +kernel) (by decide +kernel) (by decide +kernel) ?_
  refine pm_if_eq (off := 7) 1417 (by decide +kernel) (by decide) (fun _ => ?_) (fun h => absurd hz h)
  refine pm_s_iconst (z := 0) (v := 0) rfl (by decide +kernel) ?_
  refine pm_s_aload_n (j := 3) (by decide +kernel) rfl rfl ?_
  refine pm_callSH mi_L_addLetter (ix := 188) (n := 5) (As := [.ref 0, .int (xs (i + 1)), .int (xs (i + 2)), .int (0), .ref 55]) (rest := []) (st_addLetter_0 _ _ _ hV) cal_L_addLetter lk11_188 (lr_fit (by decide) g1 g2) rfl (by decide +kernel) rfl rfl (by decide) (fun _ _ h => h.elim) ?_
  rintro _ M ⟨k, rfl, hM⟩
  refine pm_V.grow (kc' := kc + 32) (ks' := ks + 1000) (Nat.add_le_add_left (by decide) _) (Nat.add_le_add_left (by decide) _) ?_
  show pm_V mi_L_law _ _ _ 1422 [some (.ref 1000), some (.ref 0), some (.ref 47), some (.ref 55), some (.ref 56), some (.int (nI i)), none, none, none] [.int k] M
  refine pm_s_istore (a := 6) (by decide +kernel) (by decide) rfl (Nat.le_of_ble_eq_true rfl) ?_
  show pm_V mi_L_law _ _ _ 1424 [some (.ref 1000), some (.ref 0), some (.ref 47), some (.ref 55), some (.ref 56), some (.int (nI i)), some (.int k), none, none] [] _
  refine pm_s_aload_n (j := 2) (by decide +kernel) rfl rfl ?_
  refine pm_s_arg (i := i) (j := 1) (kk := 1) rfl rfl rfl (by omega) hL (by decide +kernel) (by decide +kernel) (by decide +kernel) (by decide +kernel) (by decide +kernel) ?_
  refine pm_s_arg (i := i) (j := 2) (kk := 2) rfl rfl rfl (by omega) hL (by decide +kernel) (by decide +kernel) (by decide +kernel) (by decide +kernel) (by decide +kernel) ?_
  refine pm_s_arg (i := i) (j := 3) (kk := 3) rfl rfl rfl (by omega) hL (by decide +kernel) (by decide +kernel) (by decide +kernel) (by decide +kernel) (by decide +kernel) ?_
  refine pm_if_eq (off := 7) 1450 (by decide +kernel) (by decide) (fun _ => ?_) (fun h => absurd hz h)
  refine pm_s_iconst (z := 0) (v := 0) rfl (by decide +kernel) ?_
  refine pm_callV2 mi_X10_addLetter (ix := 190) (b := 47) (ci := 10) (kc2 := kc + 32) (ks2 := ks + 1000) (As := [.int (xs (i + 1)), .int (xs (i + 2)), .int (0)]) (rest := []) hM cal_X10_addLetter lk11_190 (lr_fit (by decide) h1 h2) rfl (by decide +kernel) rfl rfl rfl rfl (Nat.le_of_ble_eq_true rfl) (Nat.le_refl _) (Nat.le_refl _) (fun _ _ h9 => h9.elim) ?_
  rintro _ M2 ⟨y, rfl, h7, hout, hV2⟩
  refine pm_s_istore (a := 7) (by decide +kernel) (by decide) rfl (Nat.le_of_ble_eq_true rfl) ?_
  show pm_V mi_L_law _ _ _ 1456 [some (.ref 1000), some (.ref 0), some (.ref 47), some (.ref 55), some (.ref 56), some (.int (nI i)), some (.int k), some (.int y), none] [] _
  refine pm_s_aload_n (j := 2) (by decide +kernel) rfl rfl ?_
  refine pm_callV2 mi_X10_thrown (ix := 135) (b := 47) (ci := 10) (kc2 := kc + 32) (ks2 := ks + 1000) (As := []) (rest := []) (c_X10_thrown M2) cal_X10_thrown lk11_135 (lr_fit (by decide) h1 h2) rfl (by decide +kernel) rfl rfl rfl rfl (Nat.le_of_ble_eq_true rfl) (Nat.le_refl _) (Nat.le_refl _) (fun _ _ h9 => h9.elim) ?_
  rintro _ _ ⟨rfl, h9⟩; rw [h9]; clear h9
  rw [h7]
  show pm_V mi_L_law _ _ _ 1460 [some (.ref 1000), some (.ref 0), some (.ref 47), some (.ref 55), some (.ref 56), some (.int (nI i)), some (.int k), some (.int y), none] [.int k] M2
  have back : pm_V mi_L_law (P, X, lr_Z L xs) (kc + 32) (ks + 1000) 1484 [some (.ref 1000), some (.ref 0), some (.ref 47), some (.ref 55), some (.ref 56), some (.int (nI i)), some (.int k), some (.int y), none] [] M2 := pm_s_goto (off := 771) (tgt := 2255) (by decide +kernel) (by decide) (pm_V.drop (lo' := [some (.ref 1000), some (.ref 0), some (.ref 47), some (.ref 55), some (.ref 56), some (.int (nI i)), none, none, none]) ⟨rfl, rfl, rfl, rfl, rfl, rfl, trivial⟩ (K M2 hV2))
  refine pm_s_iload (a := 6) (by decide +kernel) rfl ?_
  refine pm_icmp_eq (off := 5) 1467 (by decide +kernel) (by decide) (fun _ => ?_) (fun h => absurd rfl h)
  refine pm_s_iload (a := 6) (by decide +kernel) rfl ?_
  refine pm_if_ne (off := 15) 1484 (by decide +kernel) (by decide) (fun _ => back) (fun h0 => ?_)
  refine pm_s_aload_n (j := 3) (by decide +kernel) rfl rfl ?_
  refine pm_s_iconst (z := 0) (v := 0) rfl (by decide +kernel) ?_
  refine pm_s_lald (r := 55) (n := 1) rfl (by unfold vp_in; decide) (by decide +kernel) ?_
  rw [show (0 : Int32).toNatClampNeg = 0 from by decide, hout h0]
  refine pm_s_iload (a := 7) (by decide +kernel) rfl ?_
  refine pm_s_i2l (by decide +kernel) ?_
  refine pm_s_lcmp0 (by decide +kernel) ?_
  refine pm_if_eq (off := 5) 1484 (by decide +kernel) (by decide) (fun _ => back) (fun h => absurd rfl h)
set_option maxHeartbeats 4000000 in
set_option maxRecDepth 100000 in
theorem la_addLetter_1 {P : Option Value → pm_Mm → Prop} {X : String → pm_Mm → Prop} {L : Nat} {xs : Nat → Int32} {kc ks i : Nat} (hi : i + 5 < L) (hL : L ≤ 3072) (h1 : kc + 32 ≤ 600000) (h2 : ks + 1000 ≤ 7000000) (μ : pm_Mm) (hV : lr_V μ.1) (hz : ¬ xs (i + 3) = 0) (K : ∀ M2 : pm_Mm, lr_V M2.1 → pm_V mi_L_law (P, X, lr_Z L xs) (kc + 32) (ks + 1000) 2255 [some (.ref 1000), some (.ref 0), some (.ref 47), some (.ref 55), some (.ref 56), some (.int (nI i)), none, none, none] [] M2) : pm_V mi_L_law (P, X, lr_Z L xs) kc ks 1391 [some (.ref 1000), some (.ref 0), some (.ref 47), some (.ref 55), some (.ref 56), some (.int (nI i)), none, none, none] [] μ := by
  have g1 : kc ≤ 600000 := by omega
  have g2 : ks ≤ 7000000 := by omega
  refine pm_s_aload_n (j := 1) (by decide +kernel) rfl rfl ?_
  refine pm_s_arg (i := i) (j := 1) (kk := 1) rfl rfl rfl (by omega) hL (by decide +kernel) (by decide +kernel) (by decide +kernel) (by decide +kernel) (by decide +kernel) ?_
  refine pm_s_arg (i := i) (j := 2) (kk := 2) rfl rfl rfl (by omega) hL (by decide +kernel) (by decide +kernel) (by decide +kernel) (by decide +kernel) (by decide +kernel) ?_
  refine pm_s_arg (i := i) (j := 3) (kk := 3) rfl rfl rfl (by omega) hL (by decide +kernel) (by decide +kernel) (by decide +kernel) (by decide +kernel) (by decide +kernel) ?_
  refine pm_if_eq (off := 7) 1417 (by decide +kernel) (by decide) (fun h => absurd h hz) (fun _ => ?_)
  refine pm_s_iconst (z := 1) (v := 1) rfl (by decide +kernel) ?_
  refine pm_s_goto (off := 4) (tgt := 1418) (by decide +kernel) (by decide) ?_
  refine pm_s_aload_n (j := 3) (by decide +kernel) rfl rfl ?_
  refine pm_callSH mi_L_addLetter (ix := 188) (n := 5) (As := [.ref 0, .int (xs (i + 1)), .int (xs (i + 2)), .int (1), .ref 55]) (rest := []) (st_addLetter_1 _ _ _ hV) cal_L_addLetter lk11_188 (lr_fit (by decide) g1 g2) rfl (by decide +kernel) rfl rfl (by decide) (fun _ _ h => h.elim) ?_
  rintro _ M ⟨k, rfl, hM⟩
  refine pm_V.grow (kc' := kc + 32) (ks' := ks + 1000) (Nat.add_le_add_left (by decide) _) (Nat.add_le_add_left (by decide) _) ?_
  show pm_V mi_L_law _ _ _ 1422 [some (.ref 1000), some (.ref 0), some (.ref 47), some (.ref 55), some (.ref 56), some (.int (nI i)), none, none, none] [.int k] M
  refine pm_s_istore (a := 6) (by decide +kernel) (by decide) rfl (Nat.le_of_ble_eq_true rfl) ?_
  show pm_V mi_L_law _ _ _ 1424 [some (.ref 1000), some (.ref 0), some (.ref 47), some (.ref 55), some (.ref 56), some (.int (nI i)), some (.int k), none, none] [] _
  refine pm_s_aload_n (j := 2) (by decide +kernel) rfl rfl ?_
  refine pm_s_arg (i := i) (j := 1) (kk := 1) rfl rfl rfl (by omega) hL (by decide +kernel) (by decide +kernel) (by decide +kernel) (by decide +kernel) (by decide +kernel) ?_
  refine pm_s_arg (i := i) (j := 2) (kk := 2) rfl rfl rfl (by omega) hL (by decide +kernel) (by decide +kernel) (by decide +kernel) (by decide +kernel) (by decide +kernel) ?_
  refine pm_s_arg (i := i) (j := 3) (kk := 3) rfl rfl rfl (by omega) hL (by decide +kernel) (by decide +kernel) (by decide +kernel) (by decide +kernel) (by decide +kernel) ?_
  refine pm_if_eq (off := 7) 1450 (by decide +kernel) (by decide) (fun h => absurd h hz) (fun _ => ?_)
  refine pm_s_iconst (z := 1) (v := 1) rfl (by decide +kernel) ?_
  refine pm_s_goto (off := 4) (tgt := 1451) (by decide +kernel) (by decide) ?_
  refine pm_callV2 mi_X10_addLetter (ix := 190) (b := 47) (ci := 10) (kc2 := kc + 32) (ks2 := ks + 1000) (As := [.int (xs (i + 1)), .int (xs (i + 2)), .int (1)]) (rest := []) hM cal_X10_addLetter lk11_190 (lr_fit (by decide) h1 h2) rfl (by decide +kernel) rfl rfl rfl rfl (Nat.le_of_ble_eq_true rfl) (Nat.le_refl _) (Nat.le_refl _) (fun _ _ h9 => h9.elim) ?_
  rintro _ M2 ⟨y, rfl, h7, hout, hV2⟩
  refine pm_s_istore (a := 7) (by decide +kernel) (by decide) rfl (Nat.le_of_ble_eq_true rfl) ?_
  show pm_V mi_L_law _ _ _ 1456 [some (.ref 1000), some (.ref 0), some (.ref 47), some (.ref 55), some (.ref 56), some (.int (nI i)), some (.int k), some (.int y), none] [] _
  refine pm_s_aload_n (j := 2) (by decide +kernel) rfl rfl ?_
  refine pm_callV2 mi_X10_thrown (ix := 135) (b := 47) (ci := 10) (kc2 := kc + 32) (ks2 := ks + 1000) (As := []) (rest := []) (c_X10_thrown M2) cal_X10_thrown lk11_135 (lr_fit (by decide) h1 h2) rfl (by decide +kernel) rfl rfl rfl rfl (Nat.le_of_ble_eq_true rfl) (Nat.le_refl _) (Nat.le_refl _) (fun _ _ h9 => h9.elim) ?_
  rintro _ _ ⟨rfl, h9⟩; rw [h9]; clear h9
  rw [h7]
  show pm_V mi_L_law _ _ _ 1460 [some (.ref 1000), some (.ref 0), some (.ref 47), some (.ref 55), some (.ref 56), some (.int (nI i)), some (.int k), some (.int y), none] [.int k] M2
  have back : pm_V mi_L_law (P, X, lr_Z L xs) (kc + 32) (ks + 1000) 1484 [some (.ref 1000), some (.ref 0), some (.ref 47), some (.ref 55), some (.ref 56), some (.int (nI i)), some (.int k), some (.int y), none] [] M2 := pm_s_goto (off := 771) (tgt := 2255) (by decide +kernel) (by decide) (pm_V.drop (lo' := [some (.ref 1000), some (.ref 0), some (.ref 47), some (.ref 55), some (.ref 56), some (.int (nI i)), none, none, none]) ⟨rfl, rfl, rfl, rfl, rfl, rfl, trivial⟩ (K M2 hV2))
  refine pm_s_iload (a := 6) (by decide +kernel) rfl ?_
  refine pm_icmp_eq (off := 5) 1467 (by decide +kernel) (by decide) (fun _ => ?_) (fun h => absurd rfl h)
  refine pm_s_iload (a := 6) (by decide +kernel) rfl ?_
  refine pm_if_ne (off := 15) 1484 (by decide +kernel) (by decide) (fun _ => back) (fun h0 => ?_)
  refine pm_s_aload_n (j := 3) (by decide +kernel) rfl rfl ?_
  refine pm_s_iconst (z := 0) (v := 0) rfl (by decide +kernel) ?_
  refine pm_s_lald (r := 55) (n := 1) rfl (by unfold vp_in; decide) (by decide +kernel) ?_
  rw [show (0 : Int32).toNatClampNeg = 0 from by decide, hout h0]
  refine pm_s_iload (a := 7) (by decide +kernel) rfl ?_
  refine pm_s_i2l (by decide +kernel) ?_
  refine pm_s_lcmp0 (by decide +kernel) ?_
  refine pm_if_eq (off := 5) 1484 (by decide +kernel) (by decide) (fun _ => back) (fun h => absurd rfl h)
set_option maxHeartbeats 4000000 in
set_option maxRecDepth 100000 in
theorem la_append {P : Option Value → pm_Mm → Prop} {X : String → pm_Mm → Prop} {L : Nat} {xs : Nat → Int32} {kc ks i : Nat} (hi : i + 5 < L) (hL : L ≤ 3072) (h1 : kc + 32 ≤ 600000) (h2 : ks + 1000 ≤ 7000000) (μ : pm_Mm) (hV : lr_V μ.1) (K : ∀ M2 : pm_Mm, lr_V M2.1 → pm_V mi_L_law (P, X, lr_Z L xs) (kc + 32) (ks + 1000) 2255 [some (.ref 1000), some (.ref 0), some (.ref 47), some (.ref 55), some (.ref 56), some (.int (nI i)), none, none, none] [] M2) : pm_V mi_L_law (P, X, lr_Z L xs) kc ks 1487 [some (.ref 1000), some (.ref 0), some (.ref 47), some (.ref 55), some (.ref 56), some (.int (nI i)), none, none, none] [] μ := by
  have g1 : kc ≤ 600000 := by omega
  have g2 : ks ≤ 7000000 := by omega
  refine pm_s_aload_n (j := 1) (by decide +kernel) rfl rfl ?_
  refine pm_s_arg (i := i) (j := 1) (kk := 1) rfl rfl rfl (by omega) hL (by decide +kernel) (by decide +kernel) (by decide +kernel) (by decide +kernel) (by decide +kernel) ?_
  refine pm_s_i2c (by decide +kernel) ?_
  refine pm_callSH mi_L_append (ix := 191) (n := 2) (As := [.ref 0, .int (((xs (i + 1)).toUInt32 % 65536).toInt32)]) (rest := []) (st_append _ _ hV (lr_c16 _)) cal_L_append lk11_191 (lr_fit (by decide) g1 g2) rfl (by decide +kernel) rfl rfl (by decide) (fun _ _ h => h.elim) ?_
  rintro _ M ⟨k, rfl, hM⟩
  refine pm_V.grow (kc' := kc + 32) (ks' := ks + 1000) (Nat.add_le_add_left (by decide) _) (Nat.add_le_add_left (by decide) _) ?_
  show pm_V mi_L_law _ _ _ 1498 [some (.ref 1000), some (.ref 0), some (.ref 47), some (.ref 55), some (.ref 56), some (.int (nI i)), none, none, none] [.int k] M
  refine pm_s_istore (a := 6) (by decide +kernel) (by decide) rfl (Nat.le_of_ble_eq_true rfl) ?_
  show pm_V mi_L_law _ _ _ 1500 [some (.ref 1000), some (.ref 0), some (.ref 47), some (.ref 55), some (.ref 56), some (.int (nI i)), some (.int k), none, none] [] _
  refine pm_s_aload_n (j := 2) (by decide +kernel) rfl rfl ?_
  refine pm_s_arg (i := i) (j := 1) (kk := 1) rfl rfl rfl (by omega) hL (by decide +kernel) (by decide +kernel) (by decide +kernel) (by decide +kernel) (by decide +kernel) ?_
  refine pm_s_i2c (by decide +kernel) ?_
  refine pm_callV2 mi_X10_append (ix := 194) (b := 47) (ci := 10) (kc2 := kc + 32) (ks2 := ks + 1000) (As := [.int (((xs (i + 1)).toUInt32 % 65536).toInt32)]) (rest := []) hM cal_X10_append lk11_194 (lr_fit (by decide) h1 h2) rfl (by decide +kernel) rfl rfl rfl rfl (Nat.le_of_ble_eq_true rfl) (Nat.le_refl _) (Nat.le_refl _) (fun _ _ h9 => h9.elim) ?_
  rintro _ M2 ⟨rfl, h7, hV2⟩
  show pm_V mi_L_law _ _ _ 1511 [some (.ref 1000), some (.ref 0), some (.ref 47), some (.ref 55), some (.ref 56), some (.int (nI i)), some (.int k), none, none] [] M2
  refine pm_s_aload_n (j := 2) (by decide +kernel) rfl rfl ?_
  refine pm_callV2 mi_X10_thrown (ix := 135) (b := 47) (ci := 10) (kc2 := kc + 32) (ks2 := ks + 1000) (As := []) (rest := []) (c_X10_thrown M2) cal_X10_thrown lk11_135 (lr_fit (by decide) h1 h2) rfl (by decide +kernel) rfl rfl rfl rfl (Nat.le_of_ble_eq_true rfl) (Nat.le_refl _) (Nat.le_refl _) (fun _ _ h9 => h9.elim) ?_
  rintro _ _ ⟨rfl, h9⟩; rw [h9]; clear h9
  rw [h7]
  show pm_V mi_L_law _ _ _ 1515 [some (.ref 1000), some (.ref 0), some (.ref 47), some (.ref 55), some (.ref 56), some (.int (nI i)), some (.int k), none, none] [.int k] M2
  have back : pm_V mi_L_law (P, X, lr_Z L xs) (kc + 32) (ks + 1000) 1522 [some (.ref 1000), some (.ref 0), some (.ref 47), some (.ref 55), some (.ref 56), some (.int (nI i)), some (.int k), none, none] [] M2 := pm_s_goto (off := 733) (tgt := 2255) (by decide +kernel) (by decide) (pm_V.drop (lo' := [some (.ref 1000), some (.ref 0), some (.ref 47), some (.ref 55), some (.ref 56), some (.int (nI i)), none, none, none]) ⟨rfl, rfl, rfl, rfl, rfl, rfl, trivial⟩ (K M2 hV2))
  refine pm_s_iload (a := 6) (by decide +kernel) rfl ?_
  refine pm_icmp_eq (off := 5) 1522 (by decide +kernel) (by decide) (fun _ => ?_) (fun h => absurd rfl h)
  exact back
