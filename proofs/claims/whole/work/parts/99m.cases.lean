/-! more cases of the law -/
set_option maxHeartbeats 4000000 in
set_option maxRecDepth 100000 in
theorem la_stopIndex {P : Option Value → pm_Mm → Prop} {X : String → pm_Mm → Prop} {L : Nat} {xs : Nat → Int32} {kc ks i : Nat} (hi : i + 5 < L) (hL : L ≤ 3072) (h1 : kc + 32 ≤ 600000) (h2 : ks + 1000 ≤ 7000000) (μ : pm_Mm) (hV : lr_V μ.1) (K : ∀ M2 : pm_Mm, lr_V M2.1 → pm_V mi_L_law (P, X, lr_Z L xs) (kc + 32) (ks + 1000) 2255 [some (.ref 1000), some (.ref 0), some (.ref 47), some (.ref 55), some (.ref 56), some (.int (nI i)), none, none, none] [] M2) : pm_V mi_L_law (P, X, lr_Z L xs) kc ks 548 [some (.ref 1000), some (.ref 0), some (.ref 47), some (.ref 55), some (.ref 56), some (.int (nI i)), none, none, none] [] μ := by
  have g1 : kc ≤ 600000 := by omega
  have g2 : ks ≤ 7000000 := by omega
  refine pm_s_aload_n (j := 1) (by decide +kernel) rfl rfl ?_
  refine pm_s_arg (i := i) (j := 1) (kk := 1) rfl rfl rfl (by omega) hL (by decide +kernel) (by decide +kernel) (by decide +kernel) (by decide +kernel) (by decide +kernel) ?_
  refine pm_s_aload_n (j := 3) (by decide +kernel) rfl rfl ?_
  refine pm_callSH mi_L_stopIndex (ix := 152) (n := 3) (As := [.ref 0, .int (xs (i + 1)), .ref 55]) (rest := []) (st_stopIndex _ _ hV) cal_L_stopIndex lk11_152 (lr_fit (by decide) g1 g2) rfl (by decide +kernel) rfl rfl (by decide) (fun _ _ h => h.elim) ?_
  rintro _ M ⟨k, rfl, hM⟩
  refine pm_V.grow (kc' := kc + 32) (ks' := ks + 1000) (Nat.add_le_add_left (by decide) _) (Nat.add_le_add_left (by decide) _) ?_
  show pm_V mi_L_law _ _ _ 559 [some (.ref 1000), some (.ref 0), some (.ref 47), some (.ref 55), some (.ref 56), some (.int (nI i)), none, none, none] [.int k] M
  refine pm_s_istore (a := 6) (by decide +kernel) (by decide) rfl (Nat.le_of_ble_eq_true rfl) ?_
  show pm_V mi_L_law _ _ _ 561 [some (.ref 1000), some (.ref 0), some (.ref 47), some (.ref 55), some (.ref 56), some (.int (nI i)), some (.int k), none, none] [] _
  refine pm_s_aload_n (j := 2) (by decide +kernel) rfl rfl ?_
  refine pm_s_arg (i := i) (j := 1) (kk := 1) rfl rfl rfl (by omega) hL (by decide +kernel) (by decide +kernel) (by decide +kernel) (by decide +kernel) (by decide +kernel) ?_
  refine pm_callV2 mi_X10_stopIndex (ix := 154) (b := 47) (ci := 10) (kc2 := kc + 32) (ks2 := ks + 1000) (As := [.int (xs (i + 1))]) (rest := []) hM cal_X10_stopIndex lk11_154 (lr_fit (by decide) h1 h2) rfl (by decide +kernel) rfl rfl rfl rfl (Nat.le_of_ble_eq_true rfl) (Nat.le_refl _) (Nat.le_refl _) (fun _ _ h9 => h9.elim) ?_
  rintro _ M2 ⟨y, rfl, h7, hout, hV2⟩
  refine pm_s_istore (a := 7) (by decide +kernel) (by decide) rfl (Nat.le_of_ble_eq_true rfl) ?_
  show pm_V mi_L_law _ _ _ 573 [some (.ref 1000), some (.ref 0), some (.ref 47), some (.ref 55), some (.ref 56), some (.int (nI i)), some (.int k), some (.int y), none] [] _
  refine pm_s_aload_n (j := 2) (by decide +kernel) rfl rfl ?_
  refine pm_callV2 mi_X10_thrown (ix := 135) (b := 47) (ci := 10) (kc2 := kc + 32) (ks2 := ks + 1000) (As := []) (rest := []) (c_X10_thrown M2) cal_X10_thrown lk11_135 (lr_fit (by decide) h1 h2) rfl (by decide +kernel) rfl rfl rfl rfl (Nat.le_of_ble_eq_true rfl) (Nat.le_refl _) (Nat.le_refl _) (fun _ _ h9 => h9.elim) ?_
  rintro _ _ ⟨rfl, h9⟩; rw [h9]; clear h9
  rw [h7]
  show pm_V mi_L_law _ _ _ 577 [some (.ref 1000), some (.ref 0), some (.ref 47), some (.ref 55), some (.ref 56), some (.int (nI i)), some (.int k), some (.int y), none] [.int k] M2
  have back : pm_V mi_L_law (P, X, lr_Z L xs) (kc + 32) (ks + 1000) 601 [some (.ref 1000), some (.ref 0), some (.ref 47), some (.ref 55), some (.ref 56), some (.int (nI i)), some (.int k), some (.int y), none] [] M2 := pm_s_goto (off := 1654) (tgt := 2255) (by decide +kernel) (by decide) (pm_V.drop (lo' := [some (.ref 1000), some (.ref 0), some (.ref 47), some (.ref 55), some (.ref 56), some (.int (nI i)), none, none, none]) ⟨rfl, rfl, rfl, rfl, rfl, rfl, trivial⟩ (K M2 hV2))
  refine pm_s_iload (a := 6) (by decide +kernel) rfl ?_
  refine pm_icmp_eq (off := 5) 584 (by decide +kernel) (by decide) (fun _ => ?_) (fun h => absurd rfl h)
  refine pm_s_iload (a := 6) (by decide +kernel) rfl ?_
  refine pm_if_ne (off := 15) 601 (by decide +kernel) (by decide) (fun _ => back) (fun h0 => ?_)
  refine pm_s_aload_n (j := 3) (by decide +kernel) rfl rfl ?_
  refine pm_s_iconst (z := 0) (v := 0) rfl (by decide +kernel) ?_
  refine pm_s_lald (r := 55) (n := 1) rfl (by unfold vp_in; decide) (by decide +kernel) ?_
  rw [show (0 : Int32).toNatClampNeg = 0 from by decide, hout h0]
  refine pm_s_iload (a := 7) (by decide +kernel) rfl ?_
  refine pm_s_i2l (by decide +kernel) ?_
  refine pm_s_lcmp0 (by decide +kernel) ?_
  refine pm_if_eq (off := 5) 601 (by decide +kernel) (by decide) (fun _ => back) (fun h => absurd rfl h)
set_option maxHeartbeats 4000000 in
set_option maxRecDepth 100000 in
theorem la_redirectPerson {P : Option Value → pm_Mm → Prop} {X : String → pm_Mm → Prop} {L : Nat} {xs : Nat → Int32} {kc ks i : Nat} (hi : i + 5 < L) (hL : L ≤ 3072) (h1 : kc + 32 ≤ 600000) (h2 : ks + 1000 ≤ 7000000) (μ : pm_Mm) (hV : lr_V μ.1) (K : ∀ M2 : pm_Mm, lr_V M2.1 → pm_V mi_L_law (P, X, lr_Z L xs) (kc + 32) (ks + 1000) 2255 [some (.ref 1000), some (.ref 0), some (.ref 47), some (.ref 55), some (.ref 56), some (.int (nI i)), none, none, none] [] M2) : pm_V mi_L_law (P, X, lr_Z L xs) kc ks 604 [some (.ref 1000), some (.ref 0), some (.ref 47), some (.ref 55), some (.ref 56), some (.int (nI i)), none, none, none] [] μ := by
  have g1 : kc ≤ 600000 := by omega
  have g2 : ks ≤ 7000000 := by omega
  refine pm_s_aload_n (j := 1) (by decide +kernel) rfl rfl ?_
  refine pm_s_arg (i := i) (j := 1) (kk := 1) rfl rfl rfl (by omega) hL (by decide +kernel) (by decide +kernel) (by decide +kernel) (by decide +kernel) (by decide +kernel) ?_
  refine pm_s_arg (i := i) (j := 2) (kk := 2) rfl rfl rfl (by omega) hL (by decide +kernel) (by decide +kernel) (by decide +kernel) (by decide +kernel) (by decide +kernel) ?_
  refine pm_s_arg (i := i) (j := 3) (kk := 3) rfl rfl rfl (by omega) hL (by decide +kernel) (by decide +kernel) (by decide +kernel) (by decide +kernel) (by decide +kernel) ?_
  refine pm_s_arg (i := i) (j := 4) (kk := 4) rfl rfl rfl (by omega) hL (by decide +kernel) (by decide +kernel) (by decide +kernel) (by decide +kernel) (by decide +kernel) ?_
  refine pm_s_aload_n (j := 3) (by decide +kernel) rfl rfl ?_
  refine pm_callSH mi_L_redirectPerson (ix := 155) (n := 6) (As := [.ref 0, .int (xs (i + 1)), .int (xs (i + 2)), .int (xs (i + 3)), .int (xs (i + 4)), .ref 55]) (rest := []) (st_redirectPerson _ _ _ _ _ hV) cal_L_redirectPerson lk11_155 (lr_fit (by decide) g1 g2) rfl (by decide +kernel) rfl rfl (by decide) (fun _ _ h => h.elim) ?_
  rintro _ M ⟨k, rfl, hM⟩
  refine pm_V.grow (kc' := kc + 32) (ks' := ks + 1000) (Nat.add_le_add_left (by decide) _) (Nat.add_le_add_left (by decide) _) ?_
  show pm_V mi_L_law _ _ _ 633 [some (.ref 1000), some (.ref 0), some (.ref 47), some (.ref 55), some (.ref 56), some (.int (nI i)), none, none, none] [.int k] M
  refine pm_s_istore (a := 6) (by decide +kernel) (by decide) rfl (Nat.le_of_ble_eq_true rfl) ?_
  show pm_V mi_L_law _ _ _ 635 [some (.ref 1000), some (.ref 0), some (.ref 47), some (.ref 55), some (.ref 56), some (.int (nI i)), some (.int k), none, none] [] _
  refine pm_s_aload_n (j := 2) (by decide +kernel) rfl rfl ?_
  refine pm_s_arg (i := i) (j := 1) (kk := 1) rfl rfl rfl (by omega) hL (by decide +kernel) (by decide +kernel) (by decide +kernel) (by decide +kernel) (by decide +kernel) ?_
  refine pm_s_arg (i := i) (j := 2) (kk := 2) rfl rfl rfl (by omega) hL (by decide +kernel) (by decide +kernel) (by decide +kernel) (by decide +kernel) (by decide +kernel) ?_
  refine pm_s_arg (i := i) (j := 3) (kk := 3) rfl rfl rfl (by omega) hL (by decide +kernel) (by decide +kernel) (by decide +kernel) (by decide +kernel) (by decide +kernel) ?_
  refine pm_s_arg (i := i) (j := 4) (kk := 4) rfl rfl rfl (by omega) hL (by decide +kernel) (by decide +kernel) (by decide +kernel) (by decide +kernel) (by decide +kernel) ?_
  refine pm_callV2 mi_X10_redirectPerson (ix := 158) (b := 47) (ci := 10) (kc2 := kc + 32) (ks2 := ks + 1000) (As := [.int (xs (i + 1)), .int (xs (i + 2)), .int (xs (i + 3)), .int (xs (i + 4))]) (rest := []) hM cal_X10_redirectPerson lk11_158 (lr_fit (by decide) h1 h2) rfl (by decide +kernel) rfl rfl rfl rfl (Nat.le_of_ble_eq_true rfl) (Nat.le_refl _) (Nat.le_refl _) (fun _ _ h9 => h9.elim) ?_
  rintro _ M2 ⟨y, rfl, h7, hout, hV2⟩
  refine pm_s_istore (a := 7) (by decide +kernel) (by decide) rfl (Nat.le_of_ble_eq_true rfl) ?_
  show pm_V mi_L_law _ _ _ 665 [some (.ref 1000), some (.ref 0), some (.ref 47), some (.ref 55), some (.ref 56), some (.int (nI i)), some (.int k), some (.int y), none] [] _
  refine pm_s_aload_n (j := 2) (by decide +kernel) rfl rfl ?_
  refine pm_callV2 mi_X10_thrown (ix := 135) (b := 47) (ci := 10) (kc2 := kc + 32) (ks2 := ks + 1000) (As := []) (rest := []) (c_X10_thrown M2) cal_X10_thrown lk11_135 (lr_fit (by decide) h1 h2) rfl (by decide +kernel) rfl rfl rfl rfl (Nat.le_of_ble_eq_true rfl) (Nat.le_refl _) (Nat.le_refl _) (fun _ _ h9 => h9.elim) ?_
  rintro _ _ ⟨rfl, h9⟩; rw [h9]; clear h9
  rw [h7]
  show pm_V mi_L_law _ _ _ 669 [some (.ref 1000), some (.ref 0), some (.ref 47), some (.ref 55), some (.ref 56), some (.int (nI i)), some (.int k), some (.int y), none] [.int k] M2
  have back : pm_V mi_L_law (P, X, lr_Z L xs) (kc + 32) (ks + 1000) 693 [some (.ref 1000), some (.ref 0), some (.ref 47), some (.ref 55), some (.ref 56), some (.int (nI i)), some (.int k), some (.int y), none] [] M2 := pm_s_goto (off := 1562) (tgt := 2255) (by decide +kernel) (by decide) (pm_V.drop (lo' := [some (.ref 1000), some (.ref 0), some (.ref 47), some (.ref 55), some (.ref 56), some (.int (nI i)), none, none, none]) ⟨rfl, rfl, rfl, rfl, rfl, rfl, trivial⟩ (K M2 hV2))
  refine pm_s_iload (a := 6) (by decide +kernel) rfl ?_
  refine pm_icmp_eq (off := 5) 676 (by decide +kernel) (by decide) (fun _ => ?_) (fun h => absurd rfl h)
  refine pm_s_iload (a := 6) (by decide +kernel) rfl ?_
  refine pm_if_ne (off := 15) 693 (by decide +kernel) (by decide) (fun _ => back) (fun h0 => ?_)
  refine pm_s_aload_n (j := 3) (by decide +kernel) rfl rfl ?_
  refine pm_s_iconst (z := 0) (v := 0) rfl (by decide +kernel) ?_
  refine pm_s_lald (r := 55) (n := 1) rfl (by unfold vp_in; decide) (by decide +kernel) ?_
  rw [show (0 : Int32).toNatClampNeg = 0 from by decide, hout h0]
  refine pm_s_iload (a := 7) (by decide +kernel) rfl ?_
  refine pm_s_i2l (by decide +kernel) ?_
  refine pm_s_lcmp0 (by decide +kernel) ?_
  refine pm_if_eq (off := 5) 693 (by decide +kernel) (by decide) (fun _ => back) (fun h => absurd rfl h)
set_option maxHeartbeats 4000000 in
set_option maxRecDepth 100000 in
theorem la_redirectHouse {P : Option Value → pm_Mm → Prop} {X : String → pm_Mm → Prop} {L : Nat} {xs : Nat → Int32} {kc ks i : Nat} (hi : i + 5 < L) (hL : L ≤ 3072) (h1 : kc + 32 ≤ 600000) (h2 : ks + 1000 ≤ 7000000) (μ : pm_Mm) (hV : lr_V μ.1) (K : ∀ M2 : pm_Mm, lr_V M2.1 → pm_V mi_L_law (P, X, lr_Z L xs) (kc + 32) (ks + 1000) 2255 [some (.ref 1000), some (.ref 0), some (.ref 47), some (.ref 55), some (.ref 56), some (.int (nI i)), none, none, none] [] M2) : pm_V mi_L_law (P, X, lr_Z L xs) kc ks 696 [some (.ref 1000), some (.ref 0), some (.ref 47), some (.ref 55), some (.ref 56), some (.int (nI i)), none, none, none] [] μ := by
  have g1 : kc ≤ 600000 := by omega
  have g2 : ks ≤ 7000000 := by omega
  refine pm_s_aload_n (j := 1) (by decide +kernel) rfl rfl ?_
  refine pm_s_arg (i := i) (j := 1) (kk := 1) rfl rfl rfl (by omega) hL (by decide +kernel) (by decide +kernel) (by decide +kernel) (by decide +kernel) (by decide +kernel) ?_
  refine pm_s_arg (i := i) (j := 2) (kk := 2) rfl rfl rfl (by omega) hL (by decide +kernel) (by decide +kernel) (by decide +kernel) (by decide +kernel) (by decide +kernel) ?_
  refine pm_s_arg (i := i) (j := 3) (kk := 3) rfl rfl rfl (by omega) hL (by decide +kernel) (by decide +kernel) (by decide +kernel) (by decide +kernel) (by decide +kernel) ?_
  refine pm_s_arg (i := i) (j := 4) (kk := 4) rfl rfl rfl (by omega) hL (by decide +kernel) (by decide +kernel) (by decide +kernel) (by decide +kernel) (by decide +kernel) ?_
  refine pm_s_aload_n (j := 3) (by decide +kernel) rfl rfl ?_
  refine pm_callSH mi_L_redirectHouse (ix := 159) (n := 6) (As := [.ref 0, .int (xs (i + 1)), .int (xs (i + 2)), .int (xs (i + 3)), .int (xs (i + 4)), .ref 55]) (rest := []) (st_redirectHouse _ _ _ _ _ hV) cal_L_redirectHouse lk11_159 (lr_fit (by decide) g1 g2) rfl (by decide +kernel) rfl rfl (by decide) (fun _ _ h => h.elim) ?_
  rintro _ M ⟨k, rfl, hM⟩
  refine pm_V.grow (kc' := kc + 32) (ks' := ks + 1000) (Nat.add_le_add_left (by decide) _) (Nat.add_le_add_left (by decide) _) ?_
  show pm_V mi_L_law _ _ _ 725 [some (.ref 1000), some (.ref 0), some (.ref 47), some (.ref 55), some (.ref 56), some (.int (nI i)), none, none, none] [.int k] M
  refine pm_s_istore (a := 6) (by decide +kernel) (by decide) rfl (Nat.le_of_ble_eq_true rfl) ?_
  show pm_V mi_L_law _ _ _ 727 [some (.ref 1000), some (.ref 0), some (.ref 47), some (.ref 55), some (.ref 56), some (.int (nI i)), some (.int k), none, none] [] _
  refine pm_s_aload_n (j := 2) (by decide +kernel) rfl rfl ?_
  refine pm_s_arg (i := i) (j := 1) (kk := 1) rfl rfl rfl (by omega) hL (by decide +kernel) (by decide +kernel) (by decide +kernel) (by decide +kernel) (by decide +kernel) ?_
  refine pm_s_arg (i := i) (j := 2) (kk := 2) rfl rfl rfl (by omega) hL (by decide +kernel) (by decide +kernel) (by decide +kernel) (by decide +kernel) (by decide +kernel) ?_
  refine pm_s_arg (i := i) (j := 3) (kk := 3) rfl rfl rfl (by omega) hL (by decide +kernel) (by decide +kernel) (by decide +kernel) (by decide +kernel) (by decide +kernel) ?_
  refine pm_s_arg (i := i) (j := 4) (kk := 4) rfl rfl rfl (by omega) hL (by decide +kernel) (by decide +kernel) (by decide +kernel) (by decide +kernel) (by decide +kernel) ?_
  refine pm_callV2 mi_X10_redirectHouse (ix := 161) (b := 47) (ci := 10) (kc2 := kc + 32) (ks2 := ks + 1000) (As := [.int (xs (i + 1)), .int (xs (i + 2)), .int (xs (i + 3)), .int (xs (i + 4))]) (rest := []) hM cal_X10_redirectHouse lk11_161 (lr_fit (by decide) h1 h2) rfl (by decide +kernel) rfl rfl rfl rfl (Nat.le_of_ble_eq_true rfl) (Nat.le_refl _) (Nat.le_refl _) (fun _ _ h9 => h9.elim) ?_
  rintro _ M2 ⟨y, rfl, h7, hout, hV2⟩
  refine pm_s_istore (a := 7) (by decide +kernel) (by decide) rfl (Nat.le_of_ble_eq_true rfl) ?_
  show pm_V mi_L_law _ _ _ 757 [some (.ref 1000), some (.ref 0), some (.ref 47), some (.ref 55), some (.ref 56), some (.int (nI i)), some (.int k), some (.int y), none] [] _
  refine pm_s_aload_n (j := 2) (by decide +kernel) rfl rfl ?_
  refine pm_callV2 mi_X10_thrown (ix := 135) (b := 47) (ci := 10) (kc2 := kc + 32) (ks2 := ks + 1000) (As := []) (rest := []) (c_X10_thrown M2) cal_X10_thrown lk11_135 (lr_fit (by decide) h1 h2) rfl (by decide +kernel) rfl rfl rfl rfl (Nat.le_of_ble_eq_true rfl) (Nat.le_refl _) (Nat.le_refl _) (fun _ _ h9 => h9.elim) ?_
  rintro _ _ ⟨rfl, h9⟩; rw [h9]; clear h9
  rw [h7]
  show pm_V mi_L_law _ _ _ 761 [some (.ref 1000), some (.ref 0), some (.ref 47), some (.ref 55), some (.ref 56), some (.int (nI i)), some (.int k), some (.int y), none] [.int k] M2
  have back : pm_V mi_L_law (P, X, lr_Z L xs) (kc + 32) (ks + 1000) 785 [some (.ref 1000), some (.ref 0), some (.ref 47), some (.ref 55), some (.ref 56), some (.int (nI i)), some (.int k), some (.int y), none] [] M2 := pm_s_goto (off := 1470) (tgt := 2255) (by decide +kernel) (by decide) (pm_V.drop (lo' := [some (.ref 1000), some (.ref 0), some (.ref 47), some (.ref 55), some (.ref 56), some (.int (nI i)), none, none, none]) ⟨rfl, rfl, rfl, rfl, rfl, rfl, trivial⟩ (K M2 hV2))
  refine pm_s_iload (a := 6) (by decide +kernel) rfl ?_
  refine pm_icmp_eq (off := 5) 768 (by decide +kernel) (by decide) (fun _ => ?_) (fun h => absurd rfl h)
  refine pm_s_iload (a := 6) (by decide +kernel) rfl ?_
  refine pm_if_ne (off := 15) 785 (by decide +kernel) (by decide) (fun _ => back) (fun h0 => ?_)
  refine pm_s_aload_n (j := 3) (by decide +kernel) rfl rfl ?_
  refine pm_s_iconst (z := 0) (v := 0) rfl (by decide +kernel) ?_
  refine pm_s_lald (r := 55) (n := 1) rfl (by unfold vp_in; decide) (by decide +kernel) ?_
  rw [show (0 : Int32).toNatClampNeg = 0 from by decide, hout h0]
  refine pm_s_iload (a := 7) (by decide +kernel) rfl ?_
  refine pm_s_i2l (by decide +kernel) ?_
  refine pm_s_lcmp0 (by decide +kernel) ?_
  refine pm_if_eq (off := 5) 785 (by decide +kernel) (by decide) (fun _ => back) (fun h => absurd rfl h)
set_option maxHeartbeats 4000000 in
set_option maxRecDepth 100000 in
theorem la_dropRedirect {P : Option Value → pm_Mm → Prop} {X : String → pm_Mm → Prop} {L : Nat} {xs : Nat → Int32} {kc ks i : Nat} (hi : i + 5 < L) (hL : L ≤ 3072) (h1 : kc + 32 ≤ 600000) (h2 : ks + 1000 ≤ 7000000) (μ : pm_Mm) (hV : lr_V μ.1) (K : ∀ M2 : pm_Mm, lr_V M2.1 → pm_V mi_L_law (P, X, lr_Z L xs) (kc + 32) (ks + 1000) 2255 [some (.ref 1000), some (.ref 0), some (.ref 47), some (.ref 55), some (.ref 56), some (.int (nI i)), none, none, none] [] M2) : pm_V mi_L_law (P, X, lr_Z L xs) kc ks 788 [some (.ref 1000), some (.ref 0), some (.ref 47), some (.ref 55), some (.ref 56), some (.int (nI i)), none, none, none] [] μ := by
  have g1 : kc ≤ 600000 := by omega
  have g2 : ks ≤ 7000000 := by omega
  refine pm_s_aload_n (j := 1) (by decide +kernel) rfl rfl ?_
  refine pm_s_arg (i := i) (j := 1) (kk := 1) rfl rfl rfl (by omega) hL (by decide +kernel) (by decide +kernel) (by decide +kernel) (by decide +kernel) (by decide +kernel) ?_
  refine pm_s_aload_n (j := 3) (by decide +kernel) rfl rfl ?_
  refine pm_callSH mi_L_dropRedirect (ix := 162) (n := 3) (As := [.ref 0, .int (xs (i + 1)), .ref 55]) (rest := []) (st_dropRedirect _ _ hV) cal_L_dropRedirect lk11_162 (lr_fit (by decide) g1 g2) rfl (by decide +kernel) rfl rfl (by decide) (fun _ _ h => h.elim) ?_
  rintro _ M ⟨k, rfl, hM⟩
  refine pm_V.grow (kc' := kc + 32) (ks' := ks + 1000) (Nat.add_le_add_left (by decide) _) (Nat.add_le_add_left (by decide) _) ?_
  show pm_V mi_L_law _ _ _ 799 [some (.ref 1000), some (.ref 0), some (.ref 47), some (.ref 55), some (.ref 56), some (.int (nI i)), none, none, none] [.int k] M
  refine pm_s_istore (a := 6) (by decide +kernel) (by decide) rfl (Nat.le_of_ble_eq_true rfl) ?_
  show pm_V mi_L_law _ _ _ 801 [some (.ref 1000), some (.ref 0), some (.ref 47), some (.ref 55), some (.ref 56), some (.int (nI i)), some (.int k), none, none] [] _
  refine pm_s_aload_n (j := 2) (by decide +kernel) rfl rfl ?_
  refine pm_s_arg (i := i) (j := 1) (kk := 1) rfl rfl rfl (by omega) hL (by decide +kernel) (by decide +kernel) (by decide +kernel) (by decide +kernel) (by decide +kernel) ?_
  refine pm_callV2 mi_X10_dropRedirect (ix := 164) (b := 47) (ci := 10) (kc2 := kc + 32) (ks2 := ks + 1000) (As := [.int (xs (i + 1))]) (rest := []) hM cal_X10_dropRedirect lk11_164 (lr_fit (by decide) h1 h2) rfl (by decide +kernel) rfl rfl rfl rfl (Nat.le_of_ble_eq_true rfl) (Nat.le_refl _) (Nat.le_refl _) (fun _ _ h9 => h9.elim) ?_
  rintro _ M2 ⟨y, rfl, h7, hout, hV2⟩
  refine pm_s_istore (a := 7) (by decide +kernel) (by decide) rfl (Nat.le_of_ble_eq_true rfl) ?_
  show pm_V mi_L_law _ _ _ 813 [some (.ref 1000), some (.ref 0), some (.ref 47), some (.ref 55), some (.ref 56), some (.int (nI i)), some (.int k), some (.int y), none] [] _
  refine pm_s_aload_n (j := 2) (by decide +kernel) rfl rfl ?_
  refine pm_callV2 mi_X10_thrown (ix := 135) (b := 47) (ci := 10) (kc2 := kc + 32) (ks2 := ks + 1000) (As := []) (rest := []) (c_X10_thrown M2) cal_X10_thrown lk11_135 (lr_fit (by decide) h1 h2) rfl (by decide +kernel) rfl rfl rfl rfl (Nat.le_of_ble_eq_true rfl) (Nat.le_refl _) (Nat.le_refl _) (fun _ _ h9 => h9.elim) ?_
  rintro _ _ ⟨rfl, h9⟩; rw [h9]; clear h9
  rw [h7]
  show pm_V mi_L_law _ _ _ 817 [some (.ref 1000), some (.ref 0), some (.ref 47), some (.ref 55), some (.ref 56), some (.int (nI i)), some (.int k), some (.int y), none] [.int k] M2
  have back : pm_V mi_L_law (P, X, lr_Z L xs) (kc + 32) (ks + 1000) 841 [some (.ref 1000), some (.ref 0), some (.ref 47), some (.ref 55), some (.ref 56), some (.int (nI i)), some (.int k), some (.int y), none] [] M2 := pm_s_goto (off := 1414) (tgt := 2255) (by decide +kernel) (by decide) (pm_V.drop (lo' := [some (.ref 1000), some (.ref 0), some (.ref 47), some (.ref 55), some (.ref 56), some (.int (nI i)), none, none, none]) ⟨rfl, rfl, rfl, rfl, rfl, rfl, trivial⟩ (K M2 hV2))
  refine pm_s_iload (a := 6) (by decide +kernel) rfl ?_
  refine pm_icmp_eq (off := 5) 824 (by decide +kernel) (by decide) (fun _ => ?_) (fun h => absurd rfl h)
  refine pm_s_iload (a := 6) (by decide +kernel) rfl ?_
  refine pm_if_ne (off := 15) 841 (by decide +kernel) (by decide) (fun _ => back) (fun h0 => ?_)
  refine pm_s_aload_n (j := 3) (by decide +kernel) rfl rfl ?_
  refine pm_s_iconst (z := 0) (v := 0) rfl (by decide +kernel) ?_
  refine pm_s_lald (r := 55) (n := 1) rfl (by unfold vp_in; decide) (by decide +kernel) ?_
  rw [show (0 : Int32).toNatClampNeg = 0 from by decide, hout h0]
  refine pm_s_iload (a := 7) (by decide +kernel) rfl ?_
  refine pm_s_i2l (by decide +kernel) ?_
  refine pm_s_lcmp0 (by decide +kernel) ?_
  refine pm_if_eq (off := 5) 841 (by decide +kernel) (by decide) (fun _ => back) (fun h => absurd rfl h)
set_option maxHeartbeats 4000000 in
set_option maxRecDepth 100000 in
theorem la_way {P : Option Value → pm_Mm → Prop} {X : String → pm_Mm → Prop} {L : Nat} {xs : Nat → Int32} {kc ks i : Nat} (hi : i + 5 < L) (hL : L ≤ 3072) (h1 : kc + 32 ≤ 600000) (h2 : ks + 1000 ≤ 7000000) (μ : pm_Mm) (hV : lr_V μ.1) (K : ∀ M2 : pm_Mm, lr_V M2.1 → pm_V mi_L_law (P, X, lr_Z L xs) (kc + 32) (ks + 1000) 2255 [some (.ref 1000), some (.ref 0), some (.ref 47), some (.ref 55), some (.ref 56), some (.int (nI i)), none, none, none] [] M2) : pm_V mi_L_law (P, X, lr_Z L xs) kc ks 844 [some (.ref 1000), some (.ref 0), some (.ref 47), some (.ref 55), some (.ref 56), some (.int (nI i)), none, none, none] [] μ := by
  have g1 : kc ≤ 600000 := by omega
  have g2 : ks ≤ 7000000 := by omega
  refine pm_s_aload_n (j := 1) (by decide +kernel) rfl rfl ?_
  refine pm_s_arg (i := i) (j := 1) (kk := 1) rfl rfl rfl (by omega) hL (by decide +kernel) (by decide +kernel) (by decide +kernel) (by decide +kernel) (by decide +kernel) ?_
  refine pm_s_arg (i := i) (j := 2) (kk := 2) rfl rfl rfl (by omega) hL (by decide +kernel) (by decide +kernel) (by decide +kernel) (by decide +kernel) (by decide +kernel) ?_
  refine pm_s_arg (i := i) (j := 3) (kk := 3) rfl rfl rfl (by omega) hL (by decide +kernel) (by decide +kernel) (by decide +kernel) (by decide +kernel) (by decide +kernel) ?_
  refine pm_s_aload_n (j := 3) (by decide +kernel) rfl rfl ?_
  refine pm_callSH mi_L_way (ix := 165) (n := 5) (As := [.ref 0, .int (xs (i + 1)), .int (xs (i + 2)), .int (xs (i + 3)), .ref 55]) (rest := []) (st_way _ _ _ _ hV) cal_L_way lk11_165 (lr_fit (by decide) g1 g2) rfl (by decide +kernel) rfl rfl (by decide) (fun _ _ h => h.elim) ?_
  rintro _ M ⟨k, rfl, hM⟩
  refine pm_V.grow (kc' := kc + 32) (ks' := ks + 1000) (Nat.add_le_add_left (by decide) _) (Nat.add_le_add_left (by decide) _) ?_
  show pm_V mi_L_law _ _ _ 867 [some (.ref 1000), some (.ref 0), some (.ref 47), some (.ref 55), some (.ref 56), some (.int (nI i)), none, none, none] [.int k] M
  refine pm_s_istore (a := 6) (by decide +kernel) (by decide) rfl (Nat.le_of_ble_eq_true rfl) ?_
  show pm_V mi_L_law _ _ _ 869 [some (.ref 1000), some (.ref 0), some (.ref 47), some (.ref 55), some (.ref 56), some (.int (nI i)), some (.int k), none, none] [] _
  refine pm_s_aload_n (j := 2) (by decide +kernel) rfl rfl ?_
  refine pm_s_arg (i := i) (j := 1) (kk := 1) rfl rfl rfl (by omega) hL (by decide +kernel) (by decide +kernel) (by decide +kernel) (by decide +kernel) (by decide +kernel) ?_
  refine pm_s_arg (i := i) (j := 2) (kk := 2) rfl rfl rfl (by omega) hL (by decide +kernel) (by decide +kernel) (by decide +kernel) (by decide +kernel) (by decide +kernel) ?_
  refine pm_s_arg (i := i) (j := 3) (kk := 3) rfl rfl rfl (by omega) hL (by decide +kernel) (by decide +kernel) (by decide +kernel) (by decide +kernel) (by decide +kernel) ?_
  refine pm_callV2 mi_X10_way (ix := 168) (b := 47) (ci := 10) (kc2 := kc + 32) (ks2 := ks + 1000) (As := [.int (xs (i + 1)), .int (xs (i + 2)), .int (xs (i + 3))]) (rest := []) hM cal_X10_way lk11_168 (lr_fit (by decide) h1 h2) rfl (by decide +kernel) rfl rfl rfl rfl (Nat.le_of_ble_eq_true rfl) (Nat.le_refl _) (Nat.le_refl _) (fun _ _ h9 => h9.elim) ?_
  rintro _ M2 ⟨y, rfl, h7, hout, hV2⟩
  refine pm_s_istore (a := 7) (by decide +kernel) (by decide) rfl (Nat.le_of_ble_eq_true rfl) ?_
  show pm_V mi_L_law _ _ _ 893 [some (.ref 1000), some (.ref 0), some (.ref 47), some (.ref 55), some (.ref 56), some (.int (nI i)), some (.int k), some (.int y), none] [] _
  refine pm_s_aload_n (j := 2) (by decide +kernel) rfl rfl ?_
  refine pm_callV2 mi_X10_thrown (ix := 135) (b := 47) (ci := 10) (kc2 := kc + 32) (ks2 := ks + 1000) (As := []) (rest := []) (c_X10_thrown M2) cal_X10_thrown lk11_135 (lr_fit (by decide) h1 h2) rfl (by decide +kernel) rfl rfl rfl rfl (Nat.le_of_ble_eq_true rfl) (Nat.le_refl _) (Nat.le_refl _) (fun _ _ h9 => h9.elim) ?_
  rintro _ _ ⟨rfl, h9⟩; rw [h9]; clear h9
  rw [h7]
  show pm_V mi_L_law _ _ _ 897 [some (.ref 1000), some (.ref 0), some (.ref 47), some (.ref 55), some (.ref 56), some (.int (nI i)), some (.int k), some (.int y), none] [.int k] M2
  have back : pm_V mi_L_law (P, X, lr_Z L xs) (kc + 32) (ks + 1000) 921 [some (.ref 1000), some (.ref 0), some (.ref 47), some (.ref 55), some (.ref 56), some (.int (nI i)), some (.int k), some (.int y), none] [] M2 := pm_s_goto (off := 1334) (tgt := 2255) (by decide +kernel) (by decide) (pm_V.drop (lo' := [some (.ref 1000), some (.ref 0), some (.ref 47), some (.ref 55), some (.ref 56), some (.int (nI i)), none, none, none]) ⟨rfl, rfl, rfl, rfl, rfl, rfl, trivial⟩ (K M2 hV2))
  refine pm_s_iload (a := 6) (by decide +kernel) rfl ?_
  refine pm_icmp_eq (off := 5) 904 (by decide +kernel) (by decide) (fun _ => ?_) (fun h => absurd rfl h)
  refine pm_s_iload (a := 6) (by decide +kernel) rfl ?_
  refine pm_if_ne (off := 15) 921 (by decide +kernel) (by decide) (fun _ => back) (fun h0 => ?_)
  refine pm_s_aload_n (j := 3) (by decide +kernel) rfl rfl ?_
  refine pm_s_iconst (z := 0) (v := 0) rfl (by decide +kernel) ?_
  refine pm_s_lald (r := 55) (n := 1) rfl (by unfold vp_in; decide) (by decide +kernel) ?_
  rw [show (0 : Int32).toNatClampNeg = 0 from by decide, hout h0]
  refine pm_s_iload (a := 7) (by decide +kernel) rfl ?_
  refine pm_s_i2l (by decide +kernel) ?_
  refine pm_s_lcmp0 (by decide +kernel) ?_
  refine pm_if_eq (off := 5) 921 (by decide +kernel) (by decide) (fun _ => back) (fun h => absurd rfl h)
set_option maxHeartbeats 4000000 in
set_option maxRecDepth 100000 in
theorem la_hold {P : Option Value → pm_Mm → Prop} {X : String → pm_Mm → Prop} {L : Nat} {xs : Nat → Int32} {kc ks i : Nat} (hi : i + 5 < L) (hL : L ≤ 3072) (h1 : kc + 32 ≤ 600000) (h2 : ks + 1000 ≤ 7000000) (μ : pm_Mm) (hV : lr_V μ.1) (K : ∀ M2 : pm_Mm, lr_V M2.1 → pm_V mi_L_law (P, X, lr_Z L xs) (kc + 32) (ks + 1000) 2255 [some (.ref 1000), some (.ref 0), some (.ref 47), some (.ref 55), some (.ref 56), some (.int (nI i)), none, none, none] [] M2) : pm_V mi_L_law (P, X, lr_Z L xs) kc ks 924 [some (.ref 1000), some (.ref 0), some (.ref 47), some (.ref 55), some (.ref 56), some (.int (nI i)), none, none, none] [] μ := by
  have g1 : kc ≤ 600000 := by omega
  have g2 : ks ≤ 7000000 := by omega
  refine pm_s_aload_n (j := 1) (by decide +kernel) rfl rfl ?_
  refine pm_s_arg (i := i) (j := 1) (kk := 1) rfl rfl rfl (by omega) hL (by decide +kernel) (by decide +kernel) (by decide +kernel) (by decide +kernel) (by decide +kernel) ?_
  refine pm_s_arg (i := i) (j := 2) (kk := 2) rfl rfl rfl (by omega) hL (by decide +kernel) (by decide +kernel) (by decide +kernel) (by decide +kernel) (by decide +kernel) ?_
  refine pm_s_aload_n (j := 3) (by decide +kernel) rfl rfl ?_
  refine pm_callSH mi_L_hold (ix := 169) (n := 4) (As := [.ref 0, .int (xs (i + 1)), .int (xs (i + 2)), .ref 55]) (rest := []) (st_hold _ _ _ hV) cal_L_hold lk11_169 (lr_fit (by decide) g1 g2) rfl (by decide +kernel) rfl rfl (by decide) (fun _ _ h => h.elim) ?_
  rintro _ M ⟨k, rfl, hM⟩
  refine pm_V.grow (kc' := kc + 32) (ks' := ks + 1000) (Nat.add_le_add_left (by decide) _) (Nat.add_le_add_left (by decide) _) ?_
  show pm_V mi_L_law _ _ _ 941 [some (.ref 1000), some (.ref 0), some (.ref 47), some (.ref 55), some (.ref 56), some (.int (nI i)), none, none, none] [.int k] M
  refine pm_s_istore (a := 6) (by decide +kernel) (by decide) rfl (Nat.le_of_ble_eq_true rfl) ?_
  show pm_V mi_L_law _ _ _ 943 [some (.ref 1000), some (.ref 0), some (.ref 47), some (.ref 55), some (.ref 56), some (.int (nI i)), some (.int k), none, none] [] _
  refine pm_s_aload_n (j := 2) (by decide +kernel) rfl rfl ?_
  refine pm_s_arg (i := i) (j := 1) (kk := 1) rfl rfl rfl (by omega) hL (by decide +kernel) (by decide +kernel) (by decide +kernel) (by decide +kernel) (by decide +kernel) ?_
  refine pm_s_arg (i := i) (j := 2) (kk := 2) rfl rfl rfl (by omega) hL (by decide +kernel) (by decide +kernel) (by decide +kernel) (by decide +kernel) (by decide +kernel) ?_
  refine pm_callV2 mi_X10_hold (ix := 171) (b := 47) (ci := 10) (kc2 := kc + 32) (ks2 := ks + 1000) (As := [.int (xs (i + 1)), .int (xs (i + 2))]) (rest := []) hM cal_X10_hold lk11_171 (lr_fit (by decide) h1 h2) rfl (by decide +kernel) rfl rfl rfl rfl (Nat.le_of_ble_eq_true rfl) (Nat.le_refl _) (Nat.le_refl _) (fun _ _ h9 => h9.elim) ?_
  rintro _ M2 ⟨y, rfl, h7, hout, hV2⟩
  refine pm_s_istore (a := 7) (by decide +kernel) (by decide) rfl (Nat.le_of_ble_eq_true rfl) ?_
  show pm_V mi_L_law _ _ _ 961 [some (.ref 1000), some (.ref 0), some (.ref 47), some (.ref 55), some (.ref 56), some (.int (nI i)), some (.int k), some (.int y), none] [] _
  refine pm_s_aload_n (j := 2) (by decide +kernel) rfl rfl ?_
  refine pm_callV2 mi_X10_thrown (ix := 135) (b := 47) (ci := 10) (kc2 := kc + 32) (ks2 := ks + 1000) (As := []) (rest := []) (c_X10_thrown M2) cal_X10_thrown lk11_135 (lr_fit (by decide) h1 h2) rfl (by decide +kernel) rfl rfl rfl rfl (Nat.le_of_ble_eq_true rfl) (Nat.le_refl _) (Nat.le_refl _) (fun _ _ h9 => h9.elim) ?_
  rintro _ _ ⟨rfl, h9⟩; rw [h9]; clear h9
  rw [h7]
  show pm_V mi_L_law _ _ _ 965 [some (.ref 1000), some (.ref 0), some (.ref 47), some (.ref 55), some (.ref 56), some (.int (nI i)), some (.int k), some (.int y), none] [.int k] M2
  have back : pm_V mi_L_law (P, X, lr_Z L xs) (kc + 32) (ks + 1000) 989 [some (.ref 1000), some (.ref 0), some (.ref 47), some (.ref 55), some (.ref 56), some (.int (nI i)), some (.int k), some (.int y), none] [] M2 := pm_s_goto (off := 1266) (tgt := 2255) (by decide +kernel) (by decide) (pm_V.drop (lo' := [some (.ref 1000), some (.ref 0), some (.ref 47), some (.ref 55), some (.ref 56), some (.int (nI i)), none, none, none]) ⟨rfl, rfl, rfl, rfl, rfl, rfl, trivial⟩ (K M2 hV2))
  refine pm_s_iload (a := 6) (by decide +kernel) rfl ?_
  refine pm_icmp_eq (off := 5) 972 (by decide +kernel) (by decide) (fun _ => ?_) (fun h => absurd rfl h)
  refine pm_s_iload (a := 6) (by decide +kernel) rfl ?_
  refine pm_if_ne (off := 15) 989 (by decide +kernel) (by decide) (fun _ => back) (fun h0 => ?_)
  refine pm_s_aload_n (j := 3) (by decide +kernel) rfl rfl ?_
  refine pm_s_iconst (z := 0) (v := 0) rfl (by decide +kernel) ?_
  refine pm_s_lald (r := 55) (n := 1) rfl (by unfold vp_in; decide) (by decide +kernel) ?_
  rw [show (0 : Int32).toNatClampNeg = 0 from by decide, hout h0]
  refine pm_s_iload (a := 7) (by decide +kernel) rfl ?_
  refine pm_s_i2l (by decide +kernel) ?_
  refine pm_s_lcmp0 (by decide +kernel) ?_
  refine pm_if_eq (off := 5) 989 (by decide +kernel) (by decide) (fun _ => back) (fun h => absurd rfl h)
set_option maxHeartbeats 4000000 in
set_option maxRecDepth 100000 in
theorem la_setLimit {P : Option Value → pm_Mm → Prop} {X : String → pm_Mm → Prop} {L : Nat} {xs : Nat → Int32} {kc ks i : Nat} (hi : i + 5 < L) (hL : L ≤ 3072) (h1 : kc + 32 ≤ 600000) (h2 : ks + 1000 ≤ 7000000) (μ : pm_Mm) (hV : lr_V μ.1) (K : ∀ M2 : pm_Mm, lr_V M2.1 → pm_V mi_L_law (P, X, lr_Z L xs) (kc + 32) (ks + 1000) 2255 [some (.ref 1000), some (.ref 0), some (.ref 47), some (.ref 55), some (.ref 56), some (.int (nI i)), none, none, none] [] M2) : pm_V mi_L_law (P, X, lr_Z L xs) kc ks 1095 [some (.ref 1000), some (.ref 0), some (.ref 47), some (.ref 55), some (.ref 56), some (.int (nI i)), none, none, none] [] μ := by
  have g1 : kc ≤ 600000 := by omega
  have g2 : ks ≤ 7000000 := by omega
  refine pm_s_aload_n (j := 1) (by decide +kernel) rfl rfl ?_
  refine pm_s_arg (i := i) (j := 1) (kk := 1) rfl rfl rfl (by omega) hL (by decide +kernel) (by decide +kernel) (by decide +kernel) (by decide +kernel) (by decide +kernel) ?_
  refine pm_s_arg (i := i) (j := 2) (kk := 2) rfl rfl rfl (by omega) hL (by decide +kernel) (by decide +kernel) (by decide +kernel) (by decide +kernel) (by decide +kernel) ?_
  refine pm_s_aload_n (j := 3) (by decide +kernel) rfl rfl ?_
  refine pm_callSH mi_L_setLimit (ix := 176) (n := 4) (As := [.ref 0, .int (xs (i + 1)), .int (xs (i + 2)), .ref 55]) (rest := []) (st_setLimit _ _ _ hV) cal_L_setLimit lk11_176 (lr_fit (by decide) g1 g2) rfl (by decide +kernel) rfl rfl (by decide) (fun _ _ h => h.elim) ?_
  rintro _ M ⟨k, rfl, hM⟩
  refine pm_V.grow (kc' := kc + 32) (ks' := ks + 1000) (Nat.add_le_add_left (by decide) _) (Nat.add_le_add_left (by decide) _) ?_
  show pm_V mi_L_law _ _ _ 1112 [some (.ref 1000), some (.ref 0), some (.ref 47), some (.ref 55), some (.ref 56), some (.int (nI i)), none, none, none] [.int k] M
  refine pm_s_istore (a := 6) (by decide +kernel) (by decide) rfl (Nat.le_of_ble_eq_true rfl) ?_
  show pm_V mi_L_law _ _ _ 1114 [some (.ref 1000), some (.ref 0), some (.ref 47), some (.ref 55), some (.ref 56), some (.int (nI i)), some (.int k), none, none] [] _
  refine pm_s_aload_n (j := 2) (by decide +kernel) rfl rfl ?_
  refine pm_s_arg (i := i) (j := 1) (kk := 1) rfl rfl rfl (by omega) hL (by decide +kernel) (by decide +kernel) (by decide +kernel) (by decide +kernel) (by decide +kernel) ?_
  refine pm_s_arg (i := i) (j := 2) (kk := 2) rfl rfl rfl (by omega) hL (by decide +kernel) (by decide +kernel) (by decide +kernel) (by decide +kernel) (by decide +kernel) ?_
  refine pm_callV2 mi_X10_setLimit (ix := 178) (b := 47) (ci := 10) (kc2 := kc + 32) (ks2 := ks + 1000) (As := [.int (xs (i + 1)), .int (xs (i + 2))]) (rest := []) hM cal_X10_setLimit lk11_178 (lr_fit (by decide) h1 h2) rfl (by decide +kernel) rfl rfl rfl rfl (Nat.le_of_ble_eq_true rfl) (Nat.le_refl _) (Nat.le_refl _) (fun _ _ h9 => h9.elim) ?_
  rintro _ M2 ⟨y, rfl, h7, hout, hV2⟩
  refine pm_s_istore (a := 7) (by decide +kernel) (by decide) rfl (Nat.le_of_ble_eq_true rfl) ?_
  show pm_V mi_L_law _ _ _ 1132 [some (.ref 1000), some (.ref 0), some (.ref 47), some (.ref 55), some (.ref 56), some (.int (nI i)), some (.int k), some (.int y), none] [] _
  refine pm_s_aload_n (j := 2) (by decide +kernel) rfl rfl ?_
  refine pm_callV2 mi_X10_thrown (ix := 135) (b := 47) (ci := 10) (kc2 := kc + 32) (ks2 := ks + 1000) (As := []) (rest := []) (c_X10_thrown M2) cal_X10_thrown lk11_135 (lr_fit (by decide) h1 h2) rfl (by decide +kernel) rfl rfl rfl rfl (Nat.le_of_ble_eq_true rfl) (Nat.le_refl _) (Nat.le_refl _) (fun _ _ h9 => h9.elim) ?_
  rintro _ _ ⟨rfl, h9⟩; rw [h9]; clear h9
  rw [h7]
  show pm_V mi_L_law _ _ _ 1136 [some (.ref 1000), some (.ref 0), some (.ref 47), some (.ref 55), some (.ref 56), some (.int (nI i)), some (.int k), some (.int y), none] [.int k] M2
  have back : pm_V mi_L_law (P, X, lr_Z L xs) (kc + 32) (ks + 1000) 1160 [some (.ref 1000), some (.ref 0), some (.ref 47), some (.ref 55), some (.ref 56), some (.int (nI i)), some (.int k), some (.int y), none] [] M2 := pm_s_goto (off := 1095) (tgt := 2255) (by decide +kernel) (by decide) (pm_V.drop (lo' := [some (.ref 1000), some (.ref 0), some (.ref 47), some (.ref 55), some (.ref 56), some (.int (nI i)), none, none, none]) ⟨rfl, rfl, rfl, rfl, rfl, rfl, trivial⟩ (K M2 hV2))
  refine pm_s_iload (a := 6) (by decide +kernel) rfl ?_
  refine pm_icmp_eq (off := 5) 1143 (by decide +kernel) (by decide) (fun _ => ?_) (fun h => absurd rfl h)
  refine pm_s_iload (a := 6) (by decide +kernel) rfl ?_
  refine pm_if_ne (off := 15) 1160 (by decide +kernel) (by decide) (fun _ => back) (fun h0 => ?_)
  refine pm_s_aload_n (j := 3) (by decide +kernel) rfl rfl ?_
  refine pm_s_iconst (z := 0) (v := 0) rfl (by decide +kernel) ?_
  refine pm_s_lald (r := 55) (n := 1) rfl (by unfold vp_in; decide) (by decide +kernel) ?_
  rw [show (0 : Int32).toNatClampNeg = 0 from by decide, hout h0]
  refine pm_s_iload (a := 7) (by decide +kernel) rfl ?_
  refine pm_s_i2l (by decide +kernel) ?_
  refine pm_s_lcmp0 (by decide +kernel) ?_
  refine pm_if_eq (off := 5) 1160 (by decide +kernel) (by decide) (fun _ => back) (fun h => absurd rfl h)
set_option maxHeartbeats 4000000 in
set_option maxRecDepth 100000 in
theorem la_leave {P : Option Value → pm_Mm → Prop} {X : String → pm_Mm → Prop} {L : Nat} {xs : Nat → Int32} {kc ks i : Nat} (hi : i + 5 < L) (hL : L ≤ 3072) (h1 : kc + 32 ≤ 600000) (h2 : ks + 1000 ≤ 7000000) (μ : pm_Mm) (hV : lr_V μ.1) (K : ∀ M2 : pm_Mm, lr_V M2.1 → pm_V mi_L_law (P, X, lr_Z L xs) (kc + 32) (ks + 1000) 2255 [some (.ref 1000), some (.ref 0), some (.ref 47), some (.ref 55), some (.ref 56), some (.int (nI i)), none, none, none] [] M2) : pm_V mi_L_law (P, X, lr_Z L xs) kc ks 1163 [some (.ref 1000), some (.ref 0), some (.ref 47), some (.ref 55), some (.ref 56), some (.int (nI i)), none, none, none] [] μ := by
  have g1 : kc ≤ 600000 := by omega
  have g2 : ks ≤ 7000000 := by omega
  refine pm_s_aload_n (j := 1) (by decide +kernel) rfl rfl ?_
  refine pm_s_arg (i := i) (j := 1) (kk := 1) rfl rfl rfl (by omega) hL (by decide +kernel) (by decide +kernel) (by decide +kernel) (by decide +kernel) (by decide +kernel) ?_
  refine pm_s_arg (i := i) (j := 2) (kk := 2) rfl rfl rfl (by omega) hL (by decide +kernel) (by decide +kernel) (by decide +kernel) (by decide +kernel) (by decide +kernel) ?_
  refine pm_s_arg (i := i) (j := 3) (kk := 3) rfl rfl rfl (by omega) hL (by decide +kernel) (by decide +kernel) (by decide +kernel) (by decide +kernel) (by decide +kernel) ?_
  refine pm_s_aload_n (j := 3) (by decide +kernel) rfl rfl ?_
  refine pm_callSH mi_L_leave (ix := 179) (n := 5) (As := [.ref 0, .int (xs (i + 1)), .int (xs (i + 2)), .int (xs (i + 3)), .ref 55]) (rest := []) (st_leave _ _ _ _ hV) cal_L_leave lk11_179 (lr_fit (by decide) g1 g2) rfl (by decide +kernel) rfl rfl (by decide) (fun _ _ h => h.elim) ?_
  rintro _ M ⟨k, rfl, hM⟩
  refine pm_V.grow (kc' := kc + 32) (ks' := ks + 1000) (Nat.add_le_add_left (by decide) _) (Nat.add_le_add_left (by decide) _) ?_
  show pm_V mi_L_law _ _ _ 1186 [some (.ref 1000), some (.ref 0), some (.ref 47), some (.ref 55), some (.ref 56), some (.int (nI i)), none, none, none] [.int k] M
  refine pm_s_istore (a := 6) (by decide +kernel) (by decide) rfl (Nat.le_of_ble_eq_true rfl) ?_
  show pm_V mi_L_law _ _ _ 1188 [some (.ref 1000), some (.ref 0), some (.ref 47), some (.ref 55), some (.ref 56), some (.int (nI i)), some (.int k), none, none] [] _
  refine pm_s_aload_n (j := 2) (by decide +kernel) rfl rfl ?_
  refine pm_s_arg (i := i) (j := 1) (kk := 1) rfl rfl rfl (by omega) hL (by decide +kernel) (by decide +kernel) (by decide +kernel) (by decide +kernel) (by decide +kernel) ?_
  refine pm_s_arg (i := i) (j := 2) (kk := 2) rfl rfl rfl (by omega) hL (by decide +kernel) (by decide +kernel) (by decide +kernel) (by decide +kernel) (by decide +kernel) ?_
  refine pm_s_arg (i := i) (j := 3) (kk := 3) rfl rfl rfl (by omega) hL (by decide +kernel) (by decide +kernel) (by decide +kernel) (by decide +kernel) (by decide +kernel) ?_
  refine pm_callV2 mi_X10_leave (ix := 181) (b := 47) (ci := 10) (kc2 := kc + 32) (ks2 := ks + 1000) (As := [.int (xs (i + 1)), .int (xs (i + 2)), .int (xs (i + 3))]) (rest := []) hM cal_X10_leave lk11_181 (lr_fit (by decide) h1 h2) rfl (by decide +kernel) rfl rfl rfl rfl (Nat.le_of_ble_eq_true rfl) (Nat.le_refl _) (Nat.le_refl _) (fun _ _ h9 => h9.elim) ?_
  rintro _ M2 ⟨y, rfl, h7, hout, hV2⟩
  refine pm_s_istore (a := 7) (by decide +kernel) (by decide) rfl (Nat.le_of_ble_eq_true rfl) ?_
  show pm_V mi_L_law _ _ _ 1212 [some (.ref 1000), some (.ref 0), some (.ref 47), some (.ref 55), some (.ref 56), some (.int (nI i)), some (.int k), some (.int y), none] [] _
  refine pm_s_aload_n (j := 2) (by decide +kernel) rfl rfl ?_
  refine pm_callV2 mi_X10_thrown (ix := 135) (b := 47) (ci := 10) (kc2 := kc + 32) (ks2 := ks + 1000) (As := []) (rest := []) (c_X10_thrown M2) cal_X10_thrown lk11_135 (lr_fit (by decide) h1 h2) rfl (by decide +kernel) rfl rfl rfl rfl (Nat.le_of_ble_eq_true rfl) (Nat.le_refl _) (Nat.le_refl _) (fun _ _ h9 => h9.elim) ?_
  rintro _ _ ⟨rfl, h9⟩; rw [h9]; clear h9
  rw [h7]
  show pm_V mi_L_law _ _ _ 1216 [some (.ref 1000), some (.ref 0), some (.ref 47), some (.ref 55), some (.ref 56), some (.int (nI i)), some (.int k), some (.int y), none] [.int k] M2
  have back : pm_V mi_L_law (P, X, lr_Z L xs) (kc + 32) (ks + 1000) 1240 [some (.ref 1000), some (.ref 0), some (.ref 47), some (.ref 55), some (.ref 56), some (.int (nI i)), some (.int k), some (.int y), none] [] M2 := pm_s_goto (off := 1015) (tgt := 2255) (by decide +kernel) (by decide) (pm_V.drop (lo' := [some (.ref 1000), some (.ref 0), some (.ref 47), some (.ref 55), some (.ref 56), some (.int (nI i)), none, none, none]) ⟨rfl, rfl, rfl, rfl, rfl, rfl, trivial⟩ (K M2 hV2))
  refine pm_s_iload (a := 6) (by decide +kernel) rfl ?_
  refine pm_icmp_eq (off := 5) 1223 (by decide +kernel) (by decide) (fun _ => ?_) (fun h => absurd rfl h)
  refine pm_s_iload (a := 6) (by decide +kernel) rfl ?_
  refine pm_if_ne (off := 15) 1240 (by decide +kernel) (by decide) (fun _ => back) (fun h0 => ?_)
  refine pm_s_aload_n (j := 3) (by decide +kernel) rfl rfl ?_
  refine pm_s_iconst (z := 0) (v := 0) rfl (by decide +kernel) ?_
  refine pm_s_lald (r := 55) (n := 1) rfl (by unfold vp_in; decide) (by decide +kernel) ?_
  rw [show (0 : Int32).toNatClampNeg = 0 from by decide, hout h0]
  refine pm_s_iload (a := 7) (by decide +kernel) rfl ?_
  refine pm_s_i2l (by decide +kernel) ?_
  refine pm_s_lcmp0 (by decide +kernel) ?_
  refine pm_if_eq (off := 5) 1240 (by decide +kernel) (by decide) (fun _ => back) (fun h => absurd rfl h)
set_option maxHeartbeats 4000000 in
set_option maxRecDepth 100000 in
theorem la_signer {P : Option Value → pm_Mm → Prop} {X : String → pm_Mm → Prop} {L : Nat} {xs : Nat → Int32} {kc ks i : Nat} (hi : i + 5 < L) (hL : L ≤ 3072) (h1 : kc + 32 ≤ 600000) (h2 : ks + 1000 ≤ 7000000) (μ : pm_Mm) (hV : lr_V μ.1) (K : ∀ M2 : pm_Mm, lr_V M2.1 → pm_V mi_L_law (P, X, lr_Z L xs) (kc + 32) (ks + 1000) 2255 [some (.ref 1000), some (.ref 0), some (.ref 47), some (.ref 55), some (.ref 56), some (.int (nI i)), none, none, none] [] M2) : pm_V mi_L_law (P, X, lr_Z L xs) kc ks 1243 [some (.ref 1000), some (.ref 0), some (.ref 47), some (.ref 55), some (.ref 56), some (.int (nI i)), none, none, none] [] μ := by
  have g1 : kc ≤ 600000 := by omega
  have g2 : ks ≤ 7000000 := by omega
  refine pm_s_aload_n (j := 1) (by decide +kernel) rfl rfl ?_
  refine pm_s_arg (i := i) (j := 1) (kk := 1) rfl rfl rfl (by omega) hL (by decide +kernel) (by decide +kernel) (by decide +kernel) (by decide +kernel) (by decide +kernel) ?_
  refine pm_s_arg (i := i) (j := 2) (kk := 2) rfl rfl rfl (by omega) hL (by decide +kernel) (by decide +kernel) (by decide +kernel) (by decide +kernel) (by decide +kernel) ?_
  refine pm_s_aload_n (j := 3) (by decide +kernel) rfl rfl ?_
  refine pm_callSH mi_L_signer (ix := 182) (n := 4) (As := [.ref 0, .int (xs (i + 1)), .int (xs (i + 2)), .ref 55]) (rest := []) (st_signer _ _ _ hV) cal_L_signer lk11_182 (lr_fit (by decide) g1 g2) rfl (by decide +kernel) rfl rfl (by decide) (fun _ _ h => h.elim) ?_
  rintro _ M ⟨k, rfl, hM⟩
  refine pm_V.grow (kc' := kc + 32) (ks' := ks + 1000) (Nat.add_le_add_left (by decide) _) (Nat.add_le_add_left (by decide) _) ?_
  show pm_V mi_L_law _ _ _ 1260 [some (.ref 1000), some (.ref 0), some (.ref 47), some (.ref 55), some (.ref 56), some (.int (nI i)), none, none, none] [.int k] M
  refine pm_s_istore (a := 6) (by decide +kernel) (by decide) rfl (Nat.le_of_ble_eq_true rfl) ?_
  show pm_V mi_L_law _ _ _ 1262 [some (.ref 1000), some (.ref 0), some (.ref 47), some (.ref 55), some (.ref 56), some (.int (nI i)), some (.int k), none, none] [] _
  refine pm_s_aload_n (j := 2) (by decide +kernel) rfl rfl ?_
  refine pm_s_arg (i := i) (j := 1) (kk := 1) rfl rfl rfl (by omega) hL (by decide +kernel) (by decide +kernel) (by decide +kernel) (by decide +kernel) (by decide +kernel) ?_
  refine pm_s_arg (i := i) (j := 2) (kk := 2) rfl rfl rfl (by omega) hL (by decide +kernel) (by decide +kernel) (by decide +kernel) (by decide +kernel) (by decide +kernel) ?_
  refine pm_callV2 mi_X10_signer (ix := 184) (b := 47) (ci := 10) (kc2 := kc + 32) (ks2 := ks + 1000) (As := [.int (xs (i + 1)), .int (xs (i + 2))]) (rest := []) hM cal_X10_signer lk11_184 (lr_fit (by decide) h1 h2) rfl (by decide +kernel) rfl rfl rfl rfl (Nat.le_of_ble_eq_true rfl) (Nat.le_refl _) (Nat.le_refl _) (fun _ _ h9 => h9.elim) ?_
  rintro _ M2 ⟨y, rfl, h7, hout, hV2⟩
  refine pm_s_istore (a := 7) (by decide +kernel) (by decide) rfl (Nat.le_of_ble_eq_true rfl) ?_
  show pm_V mi_L_law _ _ _ 1280 [some (.ref 1000), some (.ref 0), some (.ref 47), some (.ref 55), some (.ref 56), some (.int (nI i)), some (.int k), some (.int y), none] [] _
  refine pm_s_aload_n (j := 2) (by decide +kernel) rfl rfl ?_
  refine pm_callV2 mi_X10_thrown (ix := 135) (b := 47) (ci := 10) (kc2 := kc + 32) (ks2 := ks + 1000) (As := []) (rest := []) (c_X10_thrown M2) cal_X10_thrown lk11_135 (lr_fit (by decide) h1 h2) rfl (by decide +kernel) rfl rfl rfl rfl (Nat.le_of_ble_eq_true rfl) (Nat.le_refl _) (Nat.le_refl _) (fun _ _ h9 => h9.elim) ?_
  rintro _ _ ⟨rfl, h9⟩; rw [h9]; clear h9
  rw [h7]
  show pm_V mi_L_law _ _ _ 1284 [some (.ref 1000), some (.ref 0), some (.ref 47), some (.ref 55), some (.ref 56), some (.int (nI i)), some (.int k), some (.int y), none] [.int k] M2
  have back : pm_V mi_L_law (P, X, lr_Z L xs) (kc + 32) (ks + 1000) 1308 [some (.ref 1000), some (.ref 0), some (.ref 47), some (.ref 55), some (.ref 56), some (.int (nI i)), some (.int k), some (.int y), none] [] M2 := pm_s_goto (off := 947) (tgt := 2255) (by decide +kernel) (by decide) (pm_V.drop (lo' := [some (.ref 1000), some (.ref 0), some (.ref 47), some (.ref 55), some (.ref 56), some (.int (nI i)), none, none, none]) ⟨rfl, rfl, rfl, rfl, rfl, rfl, trivial⟩ (K M2 hV2))
  refine pm_s_iload (a := 6) (by decide +kernel) rfl ?_
  refine pm_icmp_eq (off := 5) 1291 (by decide +kernel) (by decide) (fun _ => ?_) (fun h => absurd rfl h)
  refine pm_s_iload (a := 6) (by decide +kernel) rfl ?_
  refine pm_if_ne (off := 15) 1308 (by decide +kernel) (by decide) (fun _ => back) (fun h0 => ?_)
  refine pm_s_aload_n (j := 3) (by decide +kernel) rfl rfl ?_
  refine pm_s_iconst (z := 0) (v := 0) rfl (by decide +kernel) ?_
  refine pm_s_lald (r := 55) (n := 1) rfl (by unfold vp_in; decide) (by decide +kernel) ?_
  rw [show (0 : Int32).toNatClampNeg = 0 from by decide, hout h0]
  refine pm_s_iload (a := 7) (by decide +kernel) rfl ?_
  refine pm_s_i2l (by decide +kernel) ?_
  refine pm_s_lcmp0 (by decide +kernel) ?_
  refine pm_if_eq (off := 5) 1308 (by decide +kernel) (by decide) (fun _ => back) (fun h => absurd rfl h)
set_option maxHeartbeats 4000000 in
set_option maxRecDepth 100000 in
theorem la_residents {P : Option Value → pm_Mm → Prop} {X : String → pm_Mm → Prop} {L : Nat} {xs : Nat → Int32} {kc ks i : Nat} (hi : i + 5 < L) (hL : L ≤ 3072) (h1 : kc + 32 ≤ 600000) (h2 : ks + 1000 ≤ 7000000) (μ : pm_Mm) (hV : lr_V μ.1) (K : ∀ M2 : pm_Mm, lr_V M2.1 → pm_V mi_L_law (P, X, lr_Z L xs) (kc + 32) (ks + 1000) 2255 [some (.ref 1000), some (.ref 0), some (.ref 47), some (.ref 55), some (.ref 56), some (.int (nI i)), none, none, none] [] M2) : pm_V mi_L_law (P, X, lr_Z L xs) kc ks 1311 [some (.ref 1000), some (.ref 0), some (.ref 47), some (.ref 55), some (.ref 56), some (.int (nI i)), none, none, none] [] μ := by
  have g1 : kc ≤ 600000 := by omega
  have g2 : ks ≤ 7000000 := by omega
  refine pm_s_aload_n (j := 1) (by decide +kernel) rfl rfl ?_
  refine pm_s_arg (i := i) (j := 1) (kk := 1) rfl rfl rfl (by omega) hL (by decide +kernel) (by decide +kernel) (by decide +kernel) (by decide +kernel) (by decide +kernel) ?_
  refine pm_s_arg (i := i) (j := 2) (kk := 2) rfl rfl rfl (by omega) hL (by decide +kernel) (by decide +kernel) (by decide +kernel) (by decide +kernel) (by decide +kernel) ?_
  refine pm_s_arg (i := i) (j := 3) (kk := 3) rfl rfl rfl (by omega) hL (by decide +kernel) (by decide +kernel) (by decide +kernel) (by decide +kernel) (by decide +kernel) ?_
  refine pm_s_aload_n (j := 3) (by decide +kernel) rfl rfl ?_
  refine pm_callSH mi_L_residents (ix := 185) (n := 5) (As := [.ref 0, .int (xs (i + 1)), .int (xs (i + 2)), .int (xs (i + 3)), .ref 55]) (rest := []) (st_residents _ _ _ _ hV) cal_L_residents lk11_185 (lr_fit (by decide) g1 g2) rfl (by decide +kernel) rfl rfl (by decide) (fun _ _ h => h.elim) ?_
  rintro _ M ⟨k, rfl, hM⟩
  refine pm_V.grow (kc' := kc + 32) (ks' := ks + 1000) (Nat.add_le_add_left (by decide) _) (Nat.add_le_add_left (by decide) _) ?_
  show pm_V mi_L_law _ _ _ 1334 [some (.ref 1000), some (.ref 0), some (.ref 47), some (.ref 55), some (.ref 56), some (.int (nI i)), none, none, none] [.int k] M
  refine pm_s_istore (a := 6) (by decide +kernel) (by decide) rfl (Nat.le_of_ble_eq_true rfl) ?_
  show pm_V mi_L_law _ _ _ 1336 [some (.ref 1000), some (.ref 0), some (.ref 47), some (.ref 55), some (.ref 56), some (.int (nI i)), some (.int k), none, none] [] _
  refine pm_s_aload_n (j := 2) (by decide +kernel) rfl rfl ?_
  refine pm_s_arg (i := i) (j := 1) (kk := 1) rfl rfl rfl (by omega) hL (by decide +kernel) (by decide +kernel) (by decide +kernel) (by decide +kernel) (by decide +kernel) ?_
  refine pm_s_arg (i := i) (j := 2) (kk := 2) rfl rfl rfl (by omega) hL (by decide +kernel) (by decide +kernel) (by decide +kernel) (by decide +kernel) (by decide +kernel) ?_
  refine pm_s_arg (i := i) (j := 3) (kk := 3) rfl rfl rfl (by omega) hL (by decide +kernel) (by decide +kernel) (by decide +kernel) (by decide +kernel) (by decide +kernel) ?_
  refine pm_callV2 mi_X10_residents (ix := 187) (b := 47) (ci := 10) (kc2 := kc + 32) (ks2 := ks + 1000) (As := [.int (xs (i + 1)), .int (xs (i + 2)), .int (xs (i + 3))]) (rest := []) hM cal_X10_residents lk11_187 (lr_fit (by decide) h1 h2) rfl (by decide +kernel) rfl rfl rfl rfl (Nat.le_of_ble_eq_true rfl) (Nat.le_refl _) (Nat.le_refl _) (fun _ _ h9 => h9.elim) ?_
  rintro _ M2 ⟨y, rfl, h7, hout, hV2⟩
  refine pm_s_istore (a := 7) (by decide +kernel) (by decide) rfl (Nat.le_of_ble_eq_true rfl) ?_
  show pm_V mi_L_law _ _ _ 1360 [some (.ref 1000), some (.ref 0), some (.ref 47), some (.ref 55), some (.ref 56), some (.int (nI i)), some (.int k), some (.int y), none] [] _
  refine pm_s_aload_n (j := 2) (by decide +kernel) rfl rfl ?_
  refine pm_callV2 mi_X10_thrown (ix := 135) (b := 47) (ci := 10) (kc2 := kc + 32) (ks2 := ks + 1000) (As := []) (rest := []) (c_X10_thrown M2) cal_X10_thrown lk11_135 (lr_fit (by decide) h1 h2) rfl (by decide +kernel) rfl rfl rfl rfl (Nat.le_of_ble_eq_true rfl) (Nat.le_refl _) (Nat.le_refl _) (fun _ _ h9 => h9.elim) ?_
  rintro _ _ ⟨rfl, h9⟩; rw [h9]; clear h9
  rw [h7]
  show pm_V mi_L_law _ _ _ 1364 [some (.ref 1000), some (.ref 0), some (.ref 47), some (.ref 55), some (.ref 56), some (.int (nI i)), some (.int k), some (.int y), none] [.int k] M2
  have back : pm_V mi_L_law (P, X, lr_Z L xs) (kc + 32) (ks + 1000) 1388 [some (.ref 1000), some (.ref 0), some (.ref 47), some (.ref 55), some (.ref 56), some (.int (nI i)), some (.int k), some (.int y), none] [] M2 := pm_s_goto (off := 867) (tgt := 2255) (by decide +kernel) (by decide) (pm_V.drop (lo' := [some (.ref 1000), some (.ref 0), some (.ref 47), some (.ref 55), some (.ref 56), some (.int (nI i)), none, none, none]) ⟨rfl, rfl, rfl, rfl, rfl, rfl, trivial⟩ (K M2 hV2))
  refine pm_s_iload (a := 6) (by decide +kernel) rfl ?_
  refine pm_icmp_eq (off := 5) 1371 (by decide +kernel) (by decide) (fun _ => ?_) (fun h => absurd rfl h)
  refine pm_s_iload (a := 6) (by decide +kernel) rfl ?_
  refine pm_if_ne (off := 15) 1388 (by decide +kernel) (by decide) (fun _ => back) (fun h0 => ?_)
  refine pm_s_aload_n (j := 3) (by decide +kernel) rfl rfl ?_
  refine pm_s_iconst (z := 0) (v := 0) rfl (by decide +kernel) ?_
  refine pm_s_lald (r := 55) (n := 1) rfl (by unfold vp_in; decide) (by decide +kernel) ?_
  rw [show (0 : Int32).toNatClampNeg = 0 from by decide, hout h0]
  refine pm_s_iload (a := 7) (by decide +kernel) rfl ?_
  refine pm_s_i2l (by decide +kernel) ?_
  refine pm_s_lcmp0 (by decide +kernel) ?_
  refine pm_if_eq (off := 5) 1388 (by decide +kernel) (by decide) (fun _ => back) (fun h => absurd rfl h)
set_option maxHeartbeats 4000000 in
set_option maxRecDepth 100000 in
theorem la_arrive {P : Option Value → pm_Mm → Prop} {X : String → pm_Mm → Prop} {L : Nat} {xs : Nat → Int32} {kc ks i : Nat} (hi : i + 5 < L) (hL : L ≤ 3072) (h1 : kc + 32 ≤ 600000) (h2 : ks + 1000 ≤ 7000000) (μ : pm_Mm) (hV : lr_V μ.1) (K : ∀ M2 : pm_Mm, lr_V M2.1 → pm_V mi_L_law (P, X, lr_Z L xs) (kc + 32) (ks + 1000) 2255 [some (.ref 1000), some (.ref 0), some (.ref 47), some (.ref 55), some (.ref 56), some (.int (nI i)), none, none, none] [] M2) : pm_V mi_L_law (P, X, lr_Z L xs) kc ks 1525 [some (.ref 1000), some (.ref 0), some (.ref 47), some (.ref 55), some (.ref 56), some (.int (nI i)), none, none, none] [] μ := by
  have g1 : kc ≤ 600000 := by omega
  have g2 : ks ≤ 7000000 := by omega
  refine pm_s_aload_n (j := 1) (by decide +kernel) rfl rfl ?_
  refine pm_s_aload_n (j := 3) (by decide +kernel) rfl rfl ?_
  refine pm_callSH mi_L_arrive (ix := 195) (n := 2) (As := [.ref 0, .ref 55]) (rest := []) (st_arrive _ hV) cal_L_arrive lk11_195 (lr_fit (by decide) g1 g2) rfl (by decide +kernel) rfl rfl (by decide) (fun _ _ h => h.elim) ?_
  rintro _ M ⟨k, rfl, hM⟩
  refine pm_V.grow (kc' := kc + 32) (ks' := ks + 1000) (Nat.add_le_add_left (by decide) _) (Nat.add_le_add_left (by decide) _) ?_
  show pm_V mi_L_law _ _ _ 1530 [some (.ref 1000), some (.ref 0), some (.ref 47), some (.ref 55), some (.ref 56), some (.int (nI i)), none, none, none] [.int k] M
  refine pm_s_istore (a := 6) (by decide +kernel) (by decide) rfl (Nat.le_of_ble_eq_true rfl) ?_
  show pm_V mi_L_law _ _ _ 1532 [some (.ref 1000), some (.ref 0), some (.ref 47), some (.ref 55), some (.ref 56), some (.int (nI i)), some (.int k), none, none] [] _
  refine pm_s_aload_n (j := 2) (by decide +kernel) rfl rfl ?_
  refine pm_callV2 mi_X10_arrive (ix := 198) (b := 47) (ci := 10) (kc2 := kc + 32) (ks2 := ks + 1000) (As := []) (rest := []) hM cal_X10_arrive lk11_198 (lr_fit (by decide) h1 h2) rfl (by decide +kernel) rfl rfl rfl rfl (Nat.le_of_ble_eq_true rfl) (Nat.le_refl _) (Nat.le_refl _) (fun _ _ h9 => h9.elim) ?_
  rintro _ M2 ⟨y, rfl, h7, hout, hV2⟩
  refine pm_s_istore (a := 7) (by decide +kernel) (by decide) rfl (Nat.le_of_ble_eq_true rfl) ?_
  show pm_V mi_L_law _ _ _ 1538 [some (.ref 1000), some (.ref 0), some (.ref 47), some (.ref 55), some (.ref 56), some (.int (nI i)), some (.int k), some (.int y), none] [] _
  refine pm_s_aload_n (j := 2) (by decide +kernel) rfl rfl ?_
  refine pm_callV2 mi_X10_thrown (ix := 135) (b := 47) (ci := 10) (kc2 := kc + 32) (ks2 := ks + 1000) (As := []) (rest := []) (c_X10_thrown M2) cal_X10_thrown lk11_135 (lr_fit (by decide) h1 h2) rfl (by decide +kernel) rfl rfl rfl rfl (Nat.le_of_ble_eq_true rfl) (Nat.le_refl _) (Nat.le_refl _) (fun _ _ h9 => h9.elim) ?_
  rintro _ _ ⟨rfl, h9⟩; rw [h9]; clear h9
  rw [h7]
  show pm_V mi_L_law _ _ _ 1542 [some (.ref 1000), some (.ref 0), some (.ref 47), some (.ref 55), some (.ref 56), some (.int (nI i)), some (.int k), some (.int y), none] [.int k] M2
  have back : pm_V mi_L_law (P, X, lr_Z L xs) (kc + 32) (ks + 1000) 1566 [some (.ref 1000), some (.ref 0), some (.ref 47), some (.ref 55), some (.ref 56), some (.int (nI i)), some (.int k), some (.int y), none] [] M2 := pm_s_goto (off := 689) (tgt := 2255) (by decide +kernel) (by decide) (pm_V.drop (lo' := [some (.ref 1000), some (.ref 0), some (.ref 47), some (.ref 55), some (.ref 56), some (.int (nI i)), none, none, none]) ⟨rfl, rfl, rfl, rfl, rfl, rfl, trivial⟩ (K M2 hV2))
  refine pm_s_iload (a := 6) (by decide +kernel) rfl ?_
  refine pm_icmp_eq (off := 5) 1549 (by decide +kernel) (by decide) (fun _ => ?_) (fun h => absurd rfl h)
  refine pm_s_iload (a := 6) (by decide +kernel) rfl ?_
  refine pm_if_ne (off := 15) 1566 (by decide +kernel) (by decide) (fun _ => back) (fun h0 => ?_)
  refine pm_s_aload_n (j := 3) (by decide +kernel) rfl rfl ?_
  refine pm_s_iconst (z := 0) (v := 0) rfl (by decide +kernel) ?_
  refine pm_s_lald (r := 55) (n := 1) rfl (by unfold vp_in; decide) (by decide +kernel) ?_
  rw [show (0 : Int32).toNatClampNeg = 0 from by decide, hout h0]
  refine pm_s_iload (a := 7) (by decide +kernel) rfl ?_
  refine pm_s_i2l (by decide +kernel) ?_
  refine pm_s_lcmp0 (by decide +kernel) ?_
  refine pm_if_eq (off := 5) 1566 (by decide +kernel) (by decide) (fun _ => back) (fun h => absurd rfl h)
set_option maxHeartbeats 4000000 in
set_option maxRecDepth 100000 in
theorem la_faultPosition {P : Option Value → pm_Mm → Prop} {X : String → pm_Mm → Prop} {L : Nat} {xs : Nat → Int32} {kc ks i : Nat} (hi : i + 5 < L) (hL : L ≤ 3072) (h1 : kc + 32 ≤ 600000) (h2 : ks + 1000 ≤ 7000000) (μ : pm_Mm) (hV : lr_V μ.1) (K : ∀ M2 : pm_Mm, lr_V M2.1 → pm_V mi_L_law (P, X, lr_Z L xs) (kc + 32) (ks + 1000) 2255 [some (.ref 1000), some (.ref 0), some (.ref 47), some (.ref 55), some (.ref 56), some (.int (nI i)), none, none, none] [] M2) : pm_V mi_L_law (P, X, lr_Z L xs) kc ks 1569 [some (.ref 1000), some (.ref 0), some (.ref 47), some (.ref 55), some (.ref 56), some (.int (nI i)), none, none, none] [] μ := by
  have g1 : kc ≤ 600000 := by omega
  have g2 : ks ≤ 7000000 := by omega
  refine pm_s_aload_n (j := 1) (by decide +kernel) rfl rfl ?_
  refine pm_callV2 mi_X9_faultPosition (ix := 199) (b := 0) (ci := 9) (kc2 := kc + 32) (ks2 := ks + 1000) (As := []) (rest := []) (st_faultPosition _ hV) cal_X9_faultPosition lk11_199 (lr_fit (by decide) g1 g2) rfl (by decide +kernel) rfl rfl rfl rfl (Nat.le_of_ble_eq_true rfl) (Nat.add_le_add_left (by decide) _) (Nat.add_le_add_left (by decide) _) (fun _ _ h9 => h9.elim) ?_
  rintro _ M ⟨k, rfl, hM⟩
  show pm_V mi_L_law _ _ _ 1573 [some (.ref 1000), some (.ref 0), some (.ref 47), some (.ref 55), some (.ref 56), some (.int (nI i)), none, none, none] [.int k] M
  refine pm_s_aload_n (j := 2) (by decide +kernel) rfl rfl ?_
  refine pm_callV2 mi_X10_faultPosition (ix := 202) (b := 47) (ci := 10) (kc2 := kc + 32) (ks2 := ks + 1000) (As := []) (rest := [.int k]) hM cal_X10_faultPosition lk11_202 (lr_fit (by decide) h1 h2) rfl (by decide +kernel) rfl rfl rfl rfl (Nat.le_of_ble_eq_true rfl) (Nat.le_refl _) (Nat.le_refl _) (fun _ _ h9 => h9.elim) ?_
  rintro _ M2 ⟨rfl, hV2⟩
  show pm_V mi_L_law _ _ _ 1577 [some (.ref 1000), some (.ref 0), some (.ref 47), some (.ref 55), some (.ref 56), some (.int (nI i)), none, none, none] [.int k, .int k] M2
  refine pm_icmp_eq (off := 678) 2255 (by decide +kernel) (by decide) (fun _ => K M2 hV2) (fun h => absurd rfl h)
