/-! more cases of the law -/
set_option maxHeartbeats 4000000 in
set_option maxRecDepth 100000 in
theorem la_refusal {P : Option Value → pm_Mm → Prop} {X : String → pm_Mm → Prop} {L : Nat} {xs : Nat → Int32} {kc ks i : Nat} (hi : i + 5 < L) (hL : L ≤ 3072) (h1 : kc + 32 ≤ 600000) (h2 : ks + 1000 ≤ 7000000) (μ : pm_Mm) (hV : lr_V μ.1) (K : ∀ M2 : pm_Mm, lr_V M2.1 → pm_V mi_L_law (P, X, lr_Z L xs) (kc + 32) (ks + 1000) 2255 [some (.ref 1000), some (.ref 0), some (.ref 47), some (.ref 55), some (.ref 56), some (.int (nI i)), none, none, none] [] M2) : pm_V mi_L_law (P, X, lr_Z L xs) kc ks 1582 [some (.ref 1000), some (.ref 0), some (.ref 47), some (.ref 55), some (.ref 56), some (.int (nI i)), none, none, none] [] μ := by
  have g1 : kc ≤ 600000 := by omega
  have g2 : ks ≤ 7000000 := by omega
  refine pm_s_aload_n (j := 1) (by decide +kernel) rfl rfl ?_
  refine pm_s_aload_n (j := 3) (by decide +kernel) rfl rfl ?_
  refine pm_callSH mi_L_refusal (ix := 203) (n := 2) (As := [.ref 0, .ref 55]) (rest := []) (st_refusal _ hV) cal_L_refusal lk11_203 (lr_fit (by decide) g1 g2) rfl (by decide +kernel) rfl rfl (by decide) (fun _ _ h => h.elim) ?_
  rintro _ M ⟨k, rfl, hM⟩
  refine pm_V.grow (kc' := kc + 32) (ks' := ks + 1000) (Nat.add_le_add_left (by decide) _) (Nat.add_le_add_left (by decide) _) ?_
  show pm_V mi_L_law _ _ _ 1587 [some (.ref 1000), some (.ref 0), some (.ref 47), some (.ref 55), some (.ref 56), some (.int (nI i)), none, none, none] [.int k] M
  refine pm_s_istore (a := 6) (by decide +kernel) (by decide) rfl (Nat.le_of_ble_eq_true rfl) ?_
  show pm_V mi_L_law _ _ _ 1589 [some (.ref 1000), some (.ref 0), some (.ref 47), some (.ref 55), some (.ref 56), some (.int (nI i)), some (.int k), none, none] [] _
  refine pm_s_aload_n (j := 2) (by decide +kernel) rfl rfl ?_
  refine pm_callV2 mi_X10_refusal (ix := 205) (b := 47) (ci := 10) (kc2 := kc + 32) (ks2 := ks + 1000) (As := []) (rest := []) hM cal_X10_refusal lk11_205 (lr_fit (by decide) h1 h2) rfl (by decide +kernel) rfl rfl rfl rfl (Nat.le_of_ble_eq_true rfl) (Nat.le_refl _) (Nat.le_refl _) (fun _ _ h9 => h9.elim) ?_
  rintro _ M2 ⟨y, rfl, h7, hout, hV2⟩
  refine pm_s_istore (a := 7) (by decide +kernel) (by decide) rfl (Nat.le_of_ble_eq_true rfl) ?_
  show pm_V mi_L_law _ _ _ 1595 [some (.ref 1000), some (.ref 0), some (.ref 47), some (.ref 55), some (.ref 56), some (.int (nI i)), some (.int k), some (.int y), none] [] _
  refine pm_s_aload_n (j := 2) (by decide +kernel) rfl rfl ?_
  refine pm_callV2 mi_X10_thrown (ix := 135) (b := 47) (ci := 10) (kc2 := kc + 32) (ks2 := ks + 1000) (As := []) (rest := []) (c_X10_thrown M2) cal_X10_thrown lk11_135 (lr_fit (by decide) h1 h2) rfl (by decide +kernel) rfl rfl rfl rfl (Nat.le_of_ble_eq_true rfl) (Nat.le_refl _) (Nat.le_refl _) (fun _ _ h9 => h9.elim) ?_
  rintro _ _ ⟨rfl, h9⟩; rw [h9]; clear h9
  rw [h7]
  show pm_V mi_L_law _ _ _ 1599 [some (.ref 1000), some (.ref 0), some (.ref 47), some (.ref 55), some (.ref 56), some (.int (nI i)), some (.int k), some (.int y), none] [.int k] M2
  have back : pm_V mi_L_law (P, X, lr_Z L xs) (kc + 32) (ks + 1000) 1623 [some (.ref 1000), some (.ref 0), some (.ref 47), some (.ref 55), some (.ref 56), some (.int (nI i)), some (.int k), some (.int y), none] [] M2 := pm_s_goto (off := 632) (tgt := 2255) (by decide +kernel) (by decide) (pm_V.drop (lo' := [some (.ref 1000), some (.ref 0), some (.ref 47), some (.ref 55), some (.ref 56), some (.int (nI i)), none, none, none]) ⟨rfl, rfl, rfl, rfl, rfl, rfl, trivial⟩ (K M2 hV2))
  refine pm_s_iload (a := 6) (by decide +kernel) rfl ?_
  refine pm_icmp_eq (off := 5) 1606 (by decide +kernel) (by decide) (fun _ => ?_) (fun h => absurd rfl h)
  refine pm_s_iload (a := 6) (by decide +kernel) rfl ?_
  refine pm_if_ne (off := 15) 1623 (by decide +kernel) (by decide) (fun _ => back) (fun h0 => ?_)
  refine pm_s_aload_n (j := 3) (by decide +kernel) rfl rfl ?_
  refine pm_s_iconst (z := 0) (v := 0) rfl (by decide +kernel) ?_
  refine pm_s_lald (r := 55) (n := 1) rfl (by unfold vp_in; decide) (by decide +kernel) ?_
  rw [show (0 : Int32).toNatClampNeg = 0 from by decide, hout h0]
  refine pm_s_iload (a := 7) (by decide +kernel) rfl ?_
  refine pm_s_i2l (by decide +kernel) ?_
  refine pm_s_lcmp0 (by decide +kernel) ?_
  refine pm_if_eq (off := 5) 1623 (by decide +kernel) (by decide) (fun _ => back) (fun h => absurd rfl h)
set_option maxHeartbeats 4000000 in
set_option maxRecDepth 100000 in
theorem la_letter {P : Option Value → pm_Mm → Prop} {X : String → pm_Mm → Prop} {L : Nat} {xs : Nat → Int32} {kc ks i : Nat} (hi : i + 5 < L) (hL : L ≤ 3072) (h1 : kc + 32 ≤ 600000) (h2 : ks + 1000 ≤ 7000000) (μ : pm_Mm) (hV : lr_V μ.1) (K : ∀ M2 : pm_Mm, lr_V M2.1 → pm_V mi_L_law (P, X, lr_Z L xs) (kc + 32) (ks + 1000) 2255 [some (.ref 1000), some (.ref 0), some (.ref 47), some (.ref 55), some (.ref 56), some (.int (nI i)), none, none, none] [] M2) : pm_V mi_L_law (P, X, lr_Z L xs) kc ks 1626 [some (.ref 1000), some (.ref 0), some (.ref 47), some (.ref 55), some (.ref 56), some (.int (nI i)), none, none, none] [] μ := by
  have g1 : kc ≤ 600000 := by omega
  have g2 : ks ≤ 7000000 := by omega
  refine pm_s_aload_n (j := 1) (by decide +kernel) rfl rfl ?_
  refine pm_s_arg (i := i) (j := 1) (kk := 1) rfl rfl rfl (by omega) hL (by decide +kernel) (by decide +kernel) (by decide +kernel) (by decide +kernel) (by decide +kernel) ?_
  refine pm_s_arg (i := i) (j := 2) (kk := 2) rfl rfl rfl (by omega) hL (by decide +kernel) (by decide +kernel) (by decide +kernel) (by decide +kernel) (by decide +kernel) ?_
  refine pm_s_aload_n (j := 3) (by decide +kernel) rfl rfl ?_
  refine pm_callSH mi_L_letter (ix := 206) (n := 4) (As := [.ref 0, .int (xs (i + 1)), .int (xs (i + 2)), .ref 55]) (rest := []) (st_letter _ _ _ hV) cal_L_letter lk11_206 (lr_fit (by decide) g1 g2) rfl (by decide +kernel) rfl rfl (by decide) (fun _ _ h => h.elim) ?_
  rintro _ M ⟨k, rfl, hM⟩
  refine pm_V.grow (kc' := kc + 32) (ks' := ks + 1000) (Nat.add_le_add_left (by decide) _) (Nat.add_le_add_left (by decide) _) ?_
  show pm_V mi_L_law _ _ _ 1643 [some (.ref 1000), some (.ref 0), some (.ref 47), some (.ref 55), some (.ref 56), some (.int (nI i)), none, none, none] [.int k] M
  refine pm_s_istore (a := 6) (by decide +kernel) (by decide) rfl (Nat.le_of_ble_eq_true rfl) ?_
  show pm_V mi_L_law _ _ _ 1645 [some (.ref 1000), some (.ref 0), some (.ref 47), some (.ref 55), some (.ref 56), some (.int (nI i)), some (.int k), none, none] [] _
  refine pm_s_aload_n (j := 2) (by decide +kernel) rfl rfl ?_
  refine pm_s_arg (i := i) (j := 1) (kk := 1) rfl rfl rfl (by omega) hL (by decide +kernel) (by decide +kernel) (by decide +kernel) (by decide +kernel) (by decide +kernel) ?_
  refine pm_s_arg (i := i) (j := 2) (kk := 2) rfl rfl rfl (by omega) hL (by decide +kernel) (by decide +kernel) (by decide +kernel) (by decide +kernel) (by decide +kernel) ?_
  refine pm_callV2 mi_X10_letter (ix := 208) (b := 47) (ci := 10) (kc2 := kc + 32) (ks2 := ks + 1000) (As := [.int (xs (i + 1)), .int (xs (i + 2))]) (rest := []) hM cal_X10_letter lk11_208 (lr_fit (by decide) h1 h2) rfl (by decide +kernel) rfl rfl rfl rfl (Nat.le_of_ble_eq_true rfl) (Nat.le_refl _) (Nat.le_refl _) (fun _ _ h9 => h9.elim) ?_
  rintro _ M2 ⟨y, rfl, h7, hout, hV2⟩
  refine pm_s_istore (a := 7) (by decide +kernel) (by decide) rfl (Nat.le_of_ble_eq_true rfl) ?_
  show pm_V mi_L_law _ _ _ 1663 [some (.ref 1000), some (.ref 0), some (.ref 47), some (.ref 55), some (.ref 56), some (.int (nI i)), some (.int k), some (.int y), none] [] _
  refine pm_s_aload_n (j := 2) (by decide +kernel) rfl rfl ?_
  refine pm_callV2 mi_X10_thrown (ix := 135) (b := 47) (ci := 10) (kc2 := kc + 32) (ks2 := ks + 1000) (As := []) (rest := []) (c_X10_thrown M2) cal_X10_thrown lk11_135 (lr_fit (by decide) h1 h2) rfl (by decide +kernel) rfl rfl rfl rfl (Nat.le_of_ble_eq_true rfl) (Nat.le_refl _) (Nat.le_refl _) (fun _ _ h9 => h9.elim) ?_
  rintro _ _ ⟨rfl, h9⟩; rw [h9]; clear h9
  rw [h7]
  show pm_V mi_L_law _ _ _ 1667 [some (.ref 1000), some (.ref 0), some (.ref 47), some (.ref 55), some (.ref 56), some (.int (nI i)), some (.int k), some (.int y), none] [.int k] M2
  have back : pm_V mi_L_law (P, X, lr_Z L xs) (kc + 32) (ks + 1000) 1691 [some (.ref 1000), some (.ref 0), some (.ref 47), some (.ref 55), some (.ref 56), some (.int (nI i)), some (.int k), some (.int y), none] [] M2 := pm_s_goto (off := 564) (tgt := 2255) (by decide +kernel) (by decide) (pm_V.drop (lo' := [some (.ref 1000), some (.ref 0), some (.ref 47), some (.ref 55), some (.ref 56), some (.int (nI i)), none, none, none]) ⟨rfl, rfl, rfl, rfl, rfl, rfl, trivial⟩ (K M2 hV2))
  refine pm_s_iload (a := 6) (by decide +kernel) rfl ?_
  refine pm_icmp_eq (off := 5) 1674 (by decide +kernel) (by decide) (fun _ => ?_) (fun h => absurd rfl h)
  refine pm_s_iload (a := 6) (by decide +kernel) rfl ?_
  refine pm_if_ne (off := 15) 1691 (by decide +kernel) (by decide) (fun _ => back) (fun h0 => ?_)
  refine pm_s_aload_n (j := 3) (by decide +kernel) rfl rfl ?_
  refine pm_s_iconst (z := 0) (v := 0) rfl (by decide +kernel) ?_
  refine pm_s_lald (r := 55) (n := 1) rfl (by unfold vp_in; decide) (by decide +kernel) ?_
  rw [show (0 : Int32).toNatClampNeg = 0 from by decide, hout h0]
  refine pm_s_iload (a := 7) (by decide +kernel) rfl ?_
  refine pm_s_i2l (by decide +kernel) ?_
  refine pm_s_lcmp0 (by decide +kernel) ?_
  refine pm_if_eq (off := 5) 1691 (by decide +kernel) (by decide) (fun _ => back) (fun h => absurd rfl h)
set_option maxHeartbeats 4000000 in
set_option maxRecDepth 100000 in
theorem la_delivered {P : Option Value → pm_Mm → Prop} {X : String → pm_Mm → Prop} {L : Nat} {xs : Nat → Int32} {kc ks i : Nat} (hi : i + 5 < L) (hL : L ≤ 3072) (h1 : kc + 32 ≤ 600000) (h2 : ks + 1000 ≤ 7000000) (μ : pm_Mm) (hV : lr_V μ.1) (K : ∀ M2 : pm_Mm, lr_V M2.1 → pm_V mi_L_law (P, X, lr_Z L xs) (kc + 32) (ks + 1000) 2255 [some (.ref 1000), some (.ref 0), some (.ref 47), some (.ref 55), some (.ref 56), some (.int (nI i)), none, none, none] [] M2) : pm_V mi_L_law (P, X, lr_Z L xs) kc ks 1818 [some (.ref 1000), some (.ref 0), some (.ref 47), some (.ref 55), some (.ref 56), some (.int (nI i)), none, none, none] [] μ := by
  have g1 : kc ≤ 600000 := by omega
  have g2 : ks ≤ 7000000 := by omega
  refine pm_s_aload_n (j := 1) (by decide +kernel) rfl rfl ?_
  refine pm_s_arg (i := i) (j := 1) (kk := 1) rfl rfl rfl (by omega) hL (by decide +kernel) (by decide +kernel) (by decide +kernel) (by decide +kernel) (by decide +kernel) ?_
  refine pm_s_aload_n (j := 3) (by decide +kernel) rfl rfl ?_
  refine pm_callSH mi_L_delivered (ix := 215) (n := 3) (As := [.ref 0, .int (xs (i + 1)), .ref 55]) (rest := []) (st_delivered _ _ hV) cal_L_delivered lk11_215 (lr_fit (by decide) g1 g2) rfl (by decide +kernel) rfl rfl (by decide) (fun _ _ h => h.elim) ?_
  rintro _ M ⟨k, rfl, hM⟩
  refine pm_V.grow (kc' := kc + 32) (ks' := ks + 1000) (Nat.add_le_add_left (by decide) _) (Nat.add_le_add_left (by decide) _) ?_
  show pm_V mi_L_law _ _ _ 1829 [some (.ref 1000), some (.ref 0), some (.ref 47), some (.ref 55), some (.ref 56), some (.int (nI i)), none, none, none] [.int k] M
  refine pm_s_istore (a := 6) (by decide +kernel) (by decide) rfl (Nat.le_of_ble_eq_true rfl) ?_
  show pm_V mi_L_law _ _ _ 1831 [some (.ref 1000), some (.ref 0), some (.ref 47), some (.ref 55), some (.ref 56), some (.int (nI i)), some (.int k), none, none] [] _
  refine pm_s_aload_n (j := 2) (by decide +kernel) rfl rfl ?_
  refine pm_s_arg (i := i) (j := 1) (kk := 1) rfl rfl rfl (by omega) hL (by decide +kernel) (by decide +kernel) (by decide +kernel) (by decide +kernel) (by decide +kernel) ?_
  refine pm_callV2 mi_X10_delivered (ix := 217) (b := 47) (ci := 10) (kc2 := kc + 32) (ks2 := ks + 1000) (As := [.int (xs (i + 1))]) (rest := []) hM cal_X10_delivered lk11_217 (lr_fit (by decide) h1 h2) rfl (by decide +kernel) rfl rfl rfl rfl (Nat.le_of_ble_eq_true rfl) (Nat.le_refl _) (Nat.le_refl _) (fun _ _ h9 => h9.elim) ?_
  rintro _ M2 ⟨y, rfl, h7, hout, hV2⟩
  refine pm_s_istore (a := 7) (by decide +kernel) (by decide) rfl (Nat.le_of_ble_eq_true rfl) ?_
  show pm_V mi_L_law _ _ _ 1843 [some (.ref 1000), some (.ref 0), some (.ref 47), some (.ref 55), some (.ref 56), some (.int (nI i)), some (.int k), some (.int y), none] [] _
  refine pm_s_aload_n (j := 2) (by decide +kernel) rfl rfl ?_
  refine pm_callV2 mi_X10_thrown (ix := 135) (b := 47) (ci := 10) (kc2 := kc + 32) (ks2 := ks + 1000) (As := []) (rest := []) (c_X10_thrown M2) cal_X10_thrown lk11_135 (lr_fit (by decide) h1 h2) rfl (by decide +kernel) rfl rfl rfl rfl (Nat.le_of_ble_eq_true rfl) (Nat.le_refl _) (Nat.le_refl _) (fun _ _ h9 => h9.elim) ?_
  rintro _ _ ⟨rfl, h9⟩; rw [h9]; clear h9
  rw [h7]
  show pm_V mi_L_law _ _ _ 1847 [some (.ref 1000), some (.ref 0), some (.ref 47), some (.ref 55), some (.ref 56), some (.int (nI i)), some (.int k), some (.int y), none] [.int k] M2
  have back : pm_V mi_L_law (P, X, lr_Z L xs) (kc + 32) (ks + 1000) 1871 [some (.ref 1000), some (.ref 0), some (.ref 47), some (.ref 55), some (.ref 56), some (.int (nI i)), some (.int k), some (.int y), none] [] M2 := pm_s_goto (off := 384) (tgt := 2255) (by decide +kernel) (by decide) (pm_V.drop (lo' := [some (.ref 1000), some (.ref 0), some (.ref 47), some (.ref 55), some (.ref 56), some (.int (nI i)), none, none, none]) ⟨rfl, rfl, rfl, rfl, rfl, rfl, trivial⟩ (K M2 hV2))
  refine pm_s_iload (a := 6) (by decide +kernel) rfl ?_
  refine pm_icmp_eq (off := 5) 1854 (by decide +kernel) (by decide) (fun _ => ?_) (fun h => absurd rfl h)
  refine pm_s_iload (a := 6) (by decide +kernel) rfl ?_
  refine pm_if_ne (off := 15) 1871 (by decide +kernel) (by decide) (fun _ => back) (fun h0 => ?_)
  refine pm_s_aload_n (j := 3) (by decide +kernel) rfl rfl ?_
  refine pm_s_iconst (z := 0) (v := 0) rfl (by decide +kernel) ?_
  refine pm_s_lald (r := 55) (n := 1) rfl (by unfold vp_in; decide) (by decide +kernel) ?_
  rw [show (0 : Int32).toNatClampNeg = 0 from by decide, hout h0]
  refine pm_s_iload (a := 7) (by decide +kernel) rfl ?_
  refine pm_s_i2l (by decide +kernel) ?_
  refine pm_s_lcmp0 (by decide +kernel) ?_
  refine pm_if_eq (off := 5) 1871 (by decide +kernel) (by decide) (fun _ => back) (fun h => absurd rfl h)
set_option maxHeartbeats 4000000 in
set_option maxRecDepth 100000 in
theorem la_daysLeft {P : Option Value → pm_Mm → Prop} {X : String → pm_Mm → Prop} {L : Nat} {xs : Nat → Int32} {kc ks i : Nat} (hi : i + 5 < L) (hL : L ≤ 3072) (h1 : kc + 32 ≤ 600000) (h2 : ks + 1000 ≤ 7000000) (μ : pm_Mm) (hV : lr_V μ.1) (K : ∀ M2 : pm_Mm, lr_V M2.1 → pm_V mi_L_law (P, X, lr_Z L xs) (kc + 32) (ks + 1000) 2255 [some (.ref 1000), some (.ref 0), some (.ref 47), some (.ref 55), some (.ref 56), some (.int (nI i)), none, none, none] [] M2) : pm_V mi_L_law (P, X, lr_Z L xs) kc ks 1874 [some (.ref 1000), some (.ref 0), some (.ref 47), some (.ref 55), some (.ref 56), some (.int (nI i)), none, none, none] [] μ := by
  have g1 : kc ≤ 600000 := by omega
  have g2 : ks ≤ 7000000 := by omega
  refine pm_s_aload_n (j := 1) (by decide +kernel) rfl rfl ?_
  refine pm_s_arg (i := i) (j := 1) (kk := 1) rfl rfl rfl (by omega) hL (by decide +kernel) (by decide +kernel) (by decide +kernel) (by decide +kernel) (by decide +kernel) ?_
  refine pm_s_aload_n (j := 3) (by decide +kernel) rfl rfl ?_
  refine pm_callSH mi_L_daysLeft (ix := 218) (n := 3) (As := [.ref 0, .int (xs (i + 1)), .ref 55]) (rest := []) (st_daysLeft _ _ hV) cal_L_daysLeft lk11_218 (lr_fit (by decide) g1 g2) rfl (by decide +kernel) rfl rfl (by decide) (fun _ _ h => h.elim) ?_
  rintro _ M ⟨k, rfl, hM⟩
  refine pm_V.grow (kc' := kc + 32) (ks' := ks + 1000) (Nat.add_le_add_left (by decide) _) (Nat.add_le_add_left (by decide) _) ?_
  show pm_V mi_L_law _ _ _ 1885 [some (.ref 1000), some (.ref 0), some (.ref 47), some (.ref 55), some (.ref 56), some (.int (nI i)), none, none, none] [.int k] M
  refine pm_s_istore (a := 6) (by decide +kernel) (by decide) rfl (Nat.le_of_ble_eq_true rfl) ?_
  show pm_V mi_L_law _ _ _ 1887 [some (.ref 1000), some (.ref 0), some (.ref 47), some (.ref 55), some (.ref 56), some (.int (nI i)), some (.int k), none, none] [] _
  refine pm_s_aload_n (j := 2) (by decide +kernel) rfl rfl ?_
  refine pm_s_arg (i := i) (j := 1) (kk := 1) rfl rfl rfl (by omega) hL (by decide +kernel) (by decide +kernel) (by decide +kernel) (by decide +kernel) (by decide +kernel) ?_
  refine pm_callV2 mi_X10_daysLeft (ix := 220) (b := 47) (ci := 10) (kc2 := kc + 32) (ks2 := ks + 1000) (As := [.int (xs (i + 1))]) (rest := []) hM cal_X10_daysLeft lk11_220 (lr_fit (by decide) h1 h2) rfl (by decide +kernel) rfl rfl rfl rfl (Nat.le_of_ble_eq_true rfl) (Nat.le_refl _) (Nat.le_refl _) (fun _ _ h9 => h9.elim) ?_
  rintro _ M2 ⟨y, rfl, h7, hout, hV2⟩
  refine pm_s_istore (a := 7) (by decide +kernel) (by decide) rfl (Nat.le_of_ble_eq_true rfl) ?_
  show pm_V mi_L_law _ _ _ 1899 [some (.ref 1000), some (.ref 0), some (.ref 47), some (.ref 55), some (.ref 56), some (.int (nI i)), some (.int k), some (.int y), none] [] _
  refine pm_s_aload_n (j := 2) (by decide +kernel) rfl rfl ?_
  refine pm_callV2 mi_X10_thrown (ix := 135) (b := 47) (ci := 10) (kc2 := kc + 32) (ks2 := ks + 1000) (As := []) (rest := []) (c_X10_thrown M2) cal_X10_thrown lk11_135 (lr_fit (by decide) h1 h2) rfl (by decide +kernel) rfl rfl rfl rfl (Nat.le_of_ble_eq_true rfl) (Nat.le_refl _) (Nat.le_refl _) (fun _ _ h9 => h9.elim) ?_
  rintro _ _ ⟨rfl, h9⟩; rw [h9]; clear h9
  rw [h7]
  show pm_V mi_L_law _ _ _ 1903 [some (.ref 1000), some (.ref 0), some (.ref 47), some (.ref 55), some (.ref 56), some (.int (nI i)), some (.int k), some (.int y), none] [.int k] M2
  have back : pm_V mi_L_law (P, X, lr_Z L xs) (kc + 32) (ks + 1000) 1927 [some (.ref 1000), some (.ref 0), some (.ref 47), some (.ref 55), some (.ref 56), some (.int (nI i)), some (.int k), some (.int y), none] [] M2 := pm_s_goto (off := 328) (tgt := 2255) (by decide +kernel) (by decide) (pm_V.drop (lo' := [some (.ref 1000), some (.ref 0), some (.ref 47), some (.ref 55), some (.ref 56), some (.int (nI i)), none, none, none]) ⟨rfl, rfl, rfl, rfl, rfl, rfl, trivial⟩ (K M2 hV2))
  refine pm_s_iload (a := 6) (by decide +kernel) rfl ?_
  refine pm_icmp_eq (off := 5) 1910 (by decide +kernel) (by decide) (fun _ => ?_) (fun h => absurd rfl h)
  refine pm_s_iload (a := 6) (by decide +kernel) rfl ?_
  refine pm_if_ne (off := 15) 1927 (by decide +kernel) (by decide) (fun _ => back) (fun h0 => ?_)
  refine pm_s_aload_n (j := 3) (by decide +kernel) rfl rfl ?_
  refine pm_s_iconst (z := 0) (v := 0) rfl (by decide +kernel) ?_
  refine pm_s_lald (r := 55) (n := 1) rfl (by unfold vp_in; decide) (by decide +kernel) ?_
  rw [show (0 : Int32).toNatClampNeg = 0 from by decide, hout h0]
  refine pm_s_iload (a := 7) (by decide +kernel) rfl ?_
  refine pm_s_i2l (by decide +kernel) ?_
  refine pm_s_lcmp0 (by decide +kernel) ?_
  refine pm_if_eq (off := 5) 1927 (by decide +kernel) (by decide) (fun _ => back) (fun h => absurd rfl h)
set_option maxHeartbeats 4000000 in
set_option maxRecDepth 100000 in
theorem la_pass {P : Option Value → pm_Mm → Prop} {X : String → pm_Mm → Prop} {L : Nat} {xs : Nat → Int32} {kc ks i : Nat} (hi : i + 5 < L) (hL : L ≤ 3072) (h1 : kc + 32 ≤ 600000) (h2 : ks + 1000 ≤ 7000000) (μ : pm_Mm) (hV : lr_V μ.1) (K : ∀ M2 : pm_Mm, lr_V M2.1 → pm_V mi_L_law (P, X, lr_Z L xs) (kc + 32) (ks + 1000) 2255 [some (.ref 1000), some (.ref 0), some (.ref 47), some (.ref 55), some (.ref 56), some (.int (nI i)), none, none, none] [] M2) : pm_V mi_L_law (P, X, lr_Z L xs) kc ks 1930 [some (.ref 1000), some (.ref 0), some (.ref 47), some (.ref 55), some (.ref 56), some (.int (nI i)), none, none, none] [] μ := by
  have g1 : kc ≤ 600000 := by omega
  have g2 : ks ≤ 7000000 := by omega
  refine pm_s_aload_n (j := 1) (by decide +kernel) rfl rfl ?_
  refine pm_s_arg (i := i) (j := 1) (kk := 1) rfl rfl rfl (by omega) hL (by decide +kernel) (by decide +kernel) (by decide +kernel) (by decide +kernel) (by decide +kernel) ?_
  refine pm_s_aload_n (j := 3) (by decide +kernel) rfl rfl ?_
  refine pm_callSH mi_L_pass (ix := 221) (n := 3) (As := [.ref 0, .int (xs (i + 1)), .ref 55]) (rest := []) (st_pass _ _ hV) cal_L_pass lk11_221 (lr_fit (by decide) g1 g2) rfl (by decide +kernel) rfl rfl (by decide) (fun _ _ h => h.elim) ?_
  rintro _ M ⟨k, rfl, hM⟩
  refine pm_V.grow (kc' := kc + 32) (ks' := ks + 1000) (Nat.add_le_add_left (by decide) _) (Nat.add_le_add_left (by decide) _) ?_
  show pm_V mi_L_law _ _ _ 1941 [some (.ref 1000), some (.ref 0), some (.ref 47), some (.ref 55), some (.ref 56), some (.int (nI i)), none, none, none] [.int k] M
  refine pm_s_istore (a := 6) (by decide +kernel) (by decide) rfl (Nat.le_of_ble_eq_true rfl) ?_
  show pm_V mi_L_law _ _ _ 1943 [some (.ref 1000), some (.ref 0), some (.ref 47), some (.ref 55), some (.ref 56), some (.int (nI i)), some (.int k), none, none] [] _
  refine pm_s_aload_n (j := 2) (by decide +kernel) rfl rfl ?_
  refine pm_s_arg (i := i) (j := 1) (kk := 1) rfl rfl rfl (by omega) hL (by decide +kernel) (by decide +kernel) (by decide +kernel) (by decide +kernel) (by decide +kernel) ?_
  refine pm_callV2 mi_X10_pass (ix := 223) (b := 47) (ci := 10) (kc2 := kc + 32) (ks2 := ks + 1000) (As := [.int (xs (i + 1))]) (rest := []) hM cal_X10_pass lk11_223 (lr_fit (by decide) h1 h2) rfl (by decide +kernel) rfl rfl rfl rfl (Nat.le_of_ble_eq_true rfl) (Nat.le_refl _) (Nat.le_refl _) (fun _ _ h9 => h9.elim) ?_
  rintro _ M2 ⟨y, rfl, h7, hout, hV2⟩
  refine pm_s_istore (a := 7) (by decide +kernel) (by decide) rfl (Nat.le_of_ble_eq_true rfl) ?_
  show pm_V mi_L_law _ _ _ 1955 [some (.ref 1000), some (.ref 0), some (.ref 47), some (.ref 55), some (.ref 56), some (.int (nI i)), some (.int k), some (.int y), none] [] _
  refine pm_s_aload_n (j := 2) (by decide +kernel) rfl rfl ?_
  refine pm_callV2 mi_X10_thrown (ix := 135) (b := 47) (ci := 10) (kc2 := kc + 32) (ks2 := ks + 1000) (As := []) (rest := []) (c_X10_thrown M2) cal_X10_thrown lk11_135 (lr_fit (by decide) h1 h2) rfl (by decide +kernel) rfl rfl rfl rfl (Nat.le_of_ble_eq_true rfl) (Nat.le_refl _) (Nat.le_refl _) (fun _ _ h9 => h9.elim) ?_
  rintro _ _ ⟨rfl, h9⟩; rw [h9]; clear h9
  rw [h7]
  show pm_V mi_L_law _ _ _ 1959 [some (.ref 1000), some (.ref 0), some (.ref 47), some (.ref 55), some (.ref 56), some (.int (nI i)), some (.int k), some (.int y), none] [.int k] M2
  have back : pm_V mi_L_law (P, X, lr_Z L xs) (kc + 32) (ks + 1000) 1983 [some (.ref 1000), some (.ref 0), some (.ref 47), some (.ref 55), some (.ref 56), some (.int (nI i)), some (.int k), some (.int y), none] [] M2 := pm_s_goto (off := 272) (tgt := 2255) (by decide +kernel) (by decide) (pm_V.drop (lo' := [some (.ref 1000), some (.ref 0), some (.ref 47), some (.ref 55), some (.ref 56), some (.int (nI i)), none, none, none]) ⟨rfl, rfl, rfl, rfl, rfl, rfl, trivial⟩ (K M2 hV2))
  refine pm_s_iload (a := 6) (by decide +kernel) rfl ?_
  refine pm_icmp_eq (off := 5) 1966 (by decide +kernel) (by decide) (fun _ => ?_) (fun h => absurd rfl h)
  refine pm_s_iload (a := 6) (by decide +kernel) rfl ?_
  refine pm_if_ne (off := 15) 1983 (by decide +kernel) (by decide) (fun _ => back) (fun h0 => ?_)
  refine pm_s_aload_n (j := 3) (by decide +kernel) rfl rfl ?_
  refine pm_s_iconst (z := 0) (v := 0) rfl (by decide +kernel) ?_
  refine pm_s_lald (r := 55) (n := 1) rfl (by unfold vp_in; decide) (by decide +kernel) ?_
  rw [show (0 : Int32).toNatClampNeg = 0 from by decide, hout h0]
  refine pm_s_iload (a := 7) (by decide +kernel) rfl ?_
  refine pm_s_i2l (by decide +kernel) ?_
  refine pm_s_lcmp0 (by decide +kernel) ?_
  refine pm_if_eq (off := 5) 1983 (by decide +kernel) (by decide) (fun _ => back) (fun h => absurd rfl h)
set_option maxHeartbeats 4000000 in
set_option maxRecDepth 100000 in
theorem la_today {P : Option Value → pm_Mm → Prop} {X : String → pm_Mm → Prop} {L : Nat} {xs : Nat → Int32} {kc ks i : Nat} (hi : i + 5 < L) (hL : L ≤ 3072) (h1 : kc + 32 ≤ 600000) (h2 : ks + 1000 ≤ 7000000) (μ : pm_Mm) (hV : lr_V μ.1) (K : ∀ M2 : pm_Mm, lr_V M2.1 → pm_V mi_L_law (P, X, lr_Z L xs) (kc + 32) (ks + 1000) 2255 [some (.ref 1000), some (.ref 0), some (.ref 47), some (.ref 55), some (.ref 56), some (.int (nI i)), none, none, none] [] M2) : pm_V mi_L_law (P, X, lr_Z L xs) kc ks 1986 [some (.ref 1000), some (.ref 0), some (.ref 47), some (.ref 55), some (.ref 56), some (.int (nI i)), none, none, none] [] μ := by
  have g1 : kc ≤ 600000 := by omega
  have g2 : ks ≤ 7000000 := by omega
  refine pm_s_aload_n (j := 1) (by decide +kernel) rfl rfl ?_
  refine pm_callV2 mi_X9_today (ix := 224) (b := 0) (ci := 9) (kc2 := kc + 32) (ks2 := ks + 1000) (As := []) (rest := []) (st_today _ hV) cal_X9_today lk11_224 (lr_fit (by decide) g1 g2) rfl (by decide +kernel) rfl rfl rfl rfl (Nat.le_of_ble_eq_true rfl) (Nat.add_le_add_left (by decide) _) (Nat.add_le_add_left (by decide) _) (fun _ _ h9 => h9.elim) ?_
  rintro _ M ⟨k, rfl, hM⟩
  show pm_V mi_L_law _ _ _ 1990 [some (.ref 1000), some (.ref 0), some (.ref 47), some (.ref 55), some (.ref 56), some (.int (nI i)), none, none, none] [.int k] M
  refine pm_s_aload_n (j := 2) (by decide +kernel) rfl rfl ?_
  refine pm_callV2 mi_X10_today (ix := 227) (b := 47) (ci := 10) (kc2 := kc + 32) (ks2 := ks + 1000) (As := []) (rest := [.int k]) hM cal_X10_today lk11_227 (lr_fit (by decide) h1 h2) rfl (by decide +kernel) rfl rfl rfl rfl (Nat.le_of_ble_eq_true rfl) (Nat.le_refl _) (Nat.le_refl _) (fun _ _ h9 => h9.elim) ?_
  rintro _ M2 ⟨rfl, hV2⟩
  show pm_V mi_L_law _ _ _ 1994 [some (.ref 1000), some (.ref 0), some (.ref 47), some (.ref 55), some (.ref 56), some (.int (nI i)), none, none, none] [.int k, .int k] M2
  refine pm_icmp_eq (off := 261) 2255 (by decide +kernel) (by decide) (fun _ => K M2 hV2) (fun h => absurd rfl h)
set_option maxHeartbeats 4000000 in
set_option maxRecDepth 100000 in
theorem la_account {P : Option Value → pm_Mm → Prop} {X : String → pm_Mm → Prop} {L : Nat} {xs : Nat → Int32} {kc ks i : Nat} (hi : i + 5 < L) (hL : L ≤ 3072) (h1 : kc + 32 ≤ 600000) (h2 : ks + 1000 ≤ 7000000) (μ : pm_Mm) (hV : lr_V μ.1) (K : ∀ M2 : pm_Mm, lr_V M2.1 → pm_V mi_L_law (P, X, lr_Z L xs) (kc + 32) (ks + 1000) 2255 [some (.ref 1000), some (.ref 0), some (.ref 47), some (.ref 55), some (.ref 56), some (.int (nI i)), none, none, none] [] M2) : pm_V mi_L_law (P, X, lr_Z L xs) kc ks 1999 [some (.ref 1000), some (.ref 0), some (.ref 47), some (.ref 55), some (.ref 56), some (.int (nI i)), none, none, none] [] μ := by
  have g1 : kc ≤ 600000 := by omega
  have g2 : ks ≤ 7000000 := by omega
  refine pm_s_aload_n (j := 1) (by decide +kernel) rfl rfl ?_
  refine pm_s_arg (i := i) (j := 1) (kk := 1) rfl rfl rfl (by omega) hL (by decide +kernel) (by decide +kernel) (by decide +kernel) (by decide +kernel) (by decide +kernel) ?_
  refine pm_s_aload_n (j := 3) (by decide +kernel) rfl rfl ?_
  refine pm_callSH mi_L_account (ix := 228) (n := 3) (As := [.ref 0, .int (xs (i + 1)), .ref 55]) (rest := []) (st_account _ _ hV) cal_L_account lk11_228 (lr_fit (by decide) g1 g2) rfl (by decide +kernel) rfl rfl (by decide) (fun _ _ h => h.elim) ?_
  rintro _ M ⟨k, rfl, hM⟩
  refine pm_V.grow (kc' := kc + 32) (ks' := ks + 1000) (Nat.add_le_add_left (by decide) _) (Nat.add_le_add_left (by decide) _) ?_
  show pm_V mi_L_law _ _ _ 2010 [some (.ref 1000), some (.ref 0), some (.ref 47), some (.ref 55), some (.ref 56), some (.int (nI i)), none, none, none] [.int k] M
  refine pm_s_istore (a := 6) (by decide +kernel) (by decide) rfl (Nat.le_of_ble_eq_true rfl) ?_
  show pm_V mi_L_law _ _ _ 2012 [some (.ref 1000), some (.ref 0), some (.ref 47), some (.ref 55), some (.ref 56), some (.int (nI i)), some (.int k), none, none] [] _
  refine pm_s_aload_n (j := 2) (by decide +kernel) rfl rfl ?_
  refine pm_s_arg (i := i) (j := 1) (kk := 1) rfl rfl rfl (by omega) hL (by decide +kernel) (by decide +kernel) (by decide +kernel) (by decide +kernel) (by decide +kernel) ?_
  refine pm_callV2 mi_X10_account (ix := 230) (b := 47) (ci := 10) (kc2 := kc + 32) (ks2 := ks + 1000) (As := [.int (xs (i + 1))]) (rest := []) hM cal_X10_account lk11_230 (lr_fit (by decide) h1 h2) rfl (by decide +kernel) rfl rfl rfl rfl (Nat.le_of_ble_eq_true rfl) (Nat.le_refl _) (Nat.le_refl _) (fun _ _ h9 => h9.elim) ?_
  rintro _ M2 ⟨y, rfl, h7, hout, hV2⟩
  refine pm_s_istore (a := 7) (by decide +kernel) (by decide) rfl (Nat.le_of_ble_eq_true rfl) ?_
  show pm_V mi_L_law _ _ _ 2024 [some (.ref 1000), some (.ref 0), some (.ref 47), some (.ref 55), some (.ref 56), some (.int (nI i)), some (.int k), some (.int y), none] [] _
  refine pm_s_aload_n (j := 2) (by decide +kernel) rfl rfl ?_
  refine pm_callV2 mi_X10_thrown (ix := 135) (b := 47) (ci := 10) (kc2 := kc + 32) (ks2 := ks + 1000) (As := []) (rest := []) (c_X10_thrown M2) cal_X10_thrown lk11_135 (lr_fit (by decide) h1 h2) rfl (by decide +kernel) rfl rfl rfl rfl (Nat.le_of_ble_eq_true rfl) (Nat.le_refl _) (Nat.le_refl _) (fun _ _ h9 => h9.elim) ?_
  rintro _ _ ⟨rfl, h9⟩; rw [h9]; clear h9
  rw [h7]
  show pm_V mi_L_law _ _ _ 2028 [some (.ref 1000), some (.ref 0), some (.ref 47), some (.ref 55), some (.ref 56), some (.int (nI i)), some (.int k), some (.int y), none] [.int k] M2
  have back : pm_V mi_L_law (P, X, lr_Z L xs) (kc + 32) (ks + 1000) 2052 [some (.ref 1000), some (.ref 0), some (.ref 47), some (.ref 55), some (.ref 56), some (.int (nI i)), some (.int k), some (.int y), none] [] M2 := pm_s_goto (off := 203) (tgt := 2255) (by decide +kernel) (by decide) (pm_V.drop (lo' := [some (.ref 1000), some (.ref 0), some (.ref 47), some (.ref 55), some (.ref 56), some (.int (nI i)), none, none, none]) ⟨rfl, rfl, rfl, rfl, rfl, rfl, trivial⟩ (K M2 hV2))
  refine pm_s_iload (a := 6) (by decide +kernel) rfl ?_
  refine pm_icmp_eq (off := 5) 2035 (by decide +kernel) (by decide) (fun _ => ?_) (fun h => absurd rfl h)
  refine pm_s_iload (a := 6) (by decide +kernel) rfl ?_
  refine pm_if_ne (off := 15) 2052 (by decide +kernel) (by decide) (fun _ => back) (fun h0 => ?_)
  refine pm_s_aload_n (j := 3) (by decide +kernel) rfl rfl ?_
  refine pm_s_iconst (z := 0) (v := 0) rfl (by decide +kernel) ?_
  refine pm_s_lald (r := 55) (n := 1) rfl (by unfold vp_in; decide) (by decide +kernel) ?_
  rw [show (0 : Int32).toNatClampNeg = 0 from by decide, hout h0]
  refine pm_s_iload (a := 7) (by decide +kernel) rfl ?_
  refine pm_s_i2l (by decide +kernel) ?_
  refine pm_s_lcmp0 (by decide +kernel) ?_
  refine pm_if_eq (off := 5) 2052 (by decide +kernel) (by decide) (fun _ => back) (fun h => absurd rfl h)
set_option maxHeartbeats 4000000 in
set_option maxRecDepth 100000 in
theorem la_returned {P : Option Value → pm_Mm → Prop} {X : String → pm_Mm → Prop} {L : Nat} {xs : Nat → Int32} {kc ks i : Nat} (hi : i + 5 < L) (hL : L ≤ 3072) (h1 : kc + 32 ≤ 600000) (h2 : ks + 1000 ≤ 7000000) (μ : pm_Mm) (hV : lr_V μ.1) (K : ∀ M2 : pm_Mm, lr_V M2.1 → pm_V mi_L_law (P, X, lr_Z L xs) (kc + 32) (ks + 1000) 2255 [some (.ref 1000), some (.ref 0), some (.ref 47), some (.ref 55), some (.ref 56), some (.int (nI i)), none, none, none] [] M2) : pm_V mi_L_law (P, X, lr_Z L xs) kc ks 2055 [some (.ref 1000), some (.ref 0), some (.ref 47), some (.ref 55), some (.ref 56), some (.int (nI i)), none, none, none] [] μ := by
  have g1 : kc ≤ 600000 := by omega
  have g2 : ks ≤ 7000000 := by omega
  refine pm_s_aload_n (j := 1) (by decide +kernel) rfl rfl ?_
  refine pm_s_arg (i := i) (j := 1) (kk := 1) rfl rfl rfl (by omega) hL (by decide +kernel) (by decide +kernel) (by decide +kernel) (by decide +kernel) (by decide +kernel) ?_
  refine pm_s_aload_n (j := 3) (by decide +kernel) rfl rfl ?_
  refine pm_callSH mi_L_returned (ix := 231) (n := 3) (As := [.ref 0, .int (xs (i + 1)), .ref 55]) (rest := []) (st_returned _ _ hV) cal_L_returned lk11_231 (lr_fit (by decide) g1 g2) rfl (by decide +kernel) rfl rfl (by decide) (fun _ _ h => h.elim) ?_
  rintro _ M ⟨k, rfl, hM⟩
  refine pm_V.grow (kc' := kc + 32) (ks' := ks + 1000) (Nat.add_le_add_left (by decide) _) (Nat.add_le_add_left (by decide) _) ?_
  show pm_V mi_L_law _ _ _ 2066 [some (.ref 1000), some (.ref 0), some (.ref 47), some (.ref 55), some (.ref 56), some (.int (nI i)), none, none, none] [.int k] M
  refine pm_s_istore (a := 6) (by decide +kernel) (by decide) rfl (Nat.le_of_ble_eq_true rfl) ?_
  show pm_V mi_L_law _ _ _ 2068 [some (.ref 1000), some (.ref 0), some (.ref 47), some (.ref 55), some (.ref 56), some (.int (nI i)), some (.int k), none, none] [] _
  refine pm_s_aload_n (j := 2) (by decide +kernel) rfl rfl ?_
  refine pm_s_arg (i := i) (j := 1) (kk := 1) rfl rfl rfl (by omega) hL (by decide +kernel) (by decide +kernel) (by decide +kernel) (by decide +kernel) (by decide +kernel) ?_
  refine pm_callV2 mi_X10_returned (ix := 233) (b := 47) (ci := 10) (kc2 := kc + 32) (ks2 := ks + 1000) (As := [.int (xs (i + 1))]) (rest := []) hM cal_X10_returned lk11_233 (lr_fit (by decide) h1 h2) rfl (by decide +kernel) rfl rfl rfl rfl (Nat.le_of_ble_eq_true rfl) (Nat.le_refl _) (Nat.le_refl _) (fun _ _ h9 => h9.elim) ?_
  rintro _ M2 ⟨y, rfl, h7, hout, hV2⟩
  refine pm_s_istore (a := 7) (by decide +kernel) (by decide) rfl (Nat.le_of_ble_eq_true rfl) ?_
  show pm_V mi_L_law _ _ _ 2080 [some (.ref 1000), some (.ref 0), some (.ref 47), some (.ref 55), some (.ref 56), some (.int (nI i)), some (.int k), some (.int y), none] [] _
  refine pm_s_aload_n (j := 2) (by decide +kernel) rfl rfl ?_
  refine pm_callV2 mi_X10_thrown (ix := 135) (b := 47) (ci := 10) (kc2 := kc + 32) (ks2 := ks + 1000) (As := []) (rest := []) (c_X10_thrown M2) cal_X10_thrown lk11_135 (lr_fit (by decide) h1 h2) rfl (by decide +kernel) rfl rfl rfl rfl (Nat.le_of_ble_eq_true rfl) (Nat.le_refl _) (Nat.le_refl _) (fun _ _ h9 => h9.elim) ?_
  rintro _ _ ⟨rfl, h9⟩; rw [h9]; clear h9
  rw [h7]
  show pm_V mi_L_law _ _ _ 2084 [some (.ref 1000), some (.ref 0), some (.ref 47), some (.ref 55), some (.ref 56), some (.int (nI i)), some (.int k), some (.int y), none] [.int k] M2
  have back : pm_V mi_L_law (P, X, lr_Z L xs) (kc + 32) (ks + 1000) 2108 [some (.ref 1000), some (.ref 0), some (.ref 47), some (.ref 55), some (.ref 56), some (.int (nI i)), some (.int k), some (.int y), none] [] M2 := pm_s_goto (off := 147) (tgt := 2255) (by decide +kernel) (by decide) (pm_V.drop (lo' := [some (.ref 1000), some (.ref 0), some (.ref 47), some (.ref 55), some (.ref 56), some (.int (nI i)), none, none, none]) ⟨rfl, rfl, rfl, rfl, rfl, rfl, trivial⟩ (K M2 hV2))
  refine pm_s_iload (a := 6) (by decide +kernel) rfl ?_
  refine pm_icmp_eq (off := 5) 2091 (by decide +kernel) (by decide) (fun _ => ?_) (fun h => absurd rfl h)
  refine pm_s_iload (a := 6) (by decide +kernel) rfl ?_
  refine pm_if_ne (off := 15) 2108 (by decide +kernel) (by decide) (fun _ => back) (fun h0 => ?_)
  refine pm_s_aload_n (j := 3) (by decide +kernel) rfl rfl ?_
  refine pm_s_iconst (z := 0) (v := 0) rfl (by decide +kernel) ?_
  refine pm_s_lald (r := 55) (n := 1) rfl (by unfold vp_in; decide) (by decide +kernel) ?_
  rw [show (0 : Int32).toNatClampNeg = 0 from by decide, hout h0]
  refine pm_s_iload (a := 7) (by decide +kernel) rfl ?_
  refine pm_s_i2l (by decide +kernel) ?_
  refine pm_s_lcmp0 (by decide +kernel) ?_
  refine pm_if_eq (off := 5) 2108 (by decide +kernel) (by decide) (fun _ => back) (fun h => absurd rfl h)
set_option maxHeartbeats 4000000 in
set_option maxRecDepth 100000 in
theorem la_meanDays {P : Option Value → pm_Mm → Prop} {X : String → pm_Mm → Prop} {L : Nat} {xs : Nat → Int32} {kc ks i : Nat} (hi : i + 5 < L) (hL : L ≤ 3072) (h1 : kc + 32 ≤ 600000) (h2 : ks + 1000 ≤ 7000000) (μ : pm_Mm) (hV : lr_V μ.1) (K : ∀ M2 : pm_Mm, lr_V M2.1 → pm_V mi_L_law (P, X, lr_Z L xs) (kc + 32) (ks + 1000) 2255 [some (.ref 1000), some (.ref 0), some (.ref 47), some (.ref 55), some (.ref 56), some (.int (nI i)), none, none, none] [] M2) : pm_V mi_L_law (P, X, lr_Z L xs) kc ks 2111 [some (.ref 1000), some (.ref 0), some (.ref 47), some (.ref 55), some (.ref 56), some (.int (nI i)), none, none, none] [] μ := by
  have g1 : kc ≤ 600000 := by omega
  have g2 : ks ≤ 7000000 := by omega
  refine pm_s_aload_n (j := 1) (by decide +kernel) rfl rfl ?_
  refine pm_s_aload (a := 4) (by decide +kernel) rfl ?_
  refine pm_callSH mi_L_meanDays (ix := 234) (n := 2) (As := [.ref 0, .ref 56]) (rest := []) (st_meanDays _ hV) cal_L_meanDays lk11_234 (lr_fit (by decide) g1 g2) rfl (by decide +kernel) rfl rfl (by decide) (fun _ _ h => h.elim) ?_
  rintro _ M ⟨k, rfl, hM⟩
  refine pm_V.grow (kc' := kc + 32) (ks' := ks + 1000) (Nat.add_le_add_left (by decide) _) (Nat.add_le_add_left (by decide) _) ?_
  show pm_V mi_L_law _ _ _ 2117 [some (.ref 1000), some (.ref 0), some (.ref 47), some (.ref 55), some (.ref 56), some (.int (nI i)), none, none, none] [.int k] M
  refine pm_s_istore (a := 6) (by decide +kernel) (by decide) rfl (Nat.le_of_ble_eq_true rfl) ?_
  show pm_V mi_L_law _ _ _ 2119 [some (.ref 1000), some (.ref 0), some (.ref 47), some (.ref 55), some (.ref 56), some (.int (nI i)), some (.int k), none, none] [] _
  refine pm_s_aload_n (j := 2) (by decide +kernel) rfl rfl ?_
  refine pm_callV2 mi_X10_meanDays (ix := 237) (b := 47) (ci := 10) (kc2 := kc + 32) (ks2 := ks + 1000) (As := []) (rest := []) hM cal_X10_meanDays lk11_237 (lr_fit (by decide) h1 h2) rfl (by decide +kernel) rfl rfl rfl rfl (Nat.le_of_ble_eq_true rfl) (Nat.le_refl _) (Nat.le_refl _) (fun _ _ h9 => h9.elim) ?_
  rintro _ M2 ⟨y, rfl, h7, hout, hV2⟩
  refine pm_s_dstore (a := 7) (by decide +kernel) (by decide) rfl (Nat.le_of_ble_eq_true rfl) ?_
  show pm_V mi_L_law _ _ _ 2125 [some (.ref 1000), some (.ref 0), some (.ref 47), some (.ref 55), some (.ref 56), some (.int (nI i)), some (.int k), some (.double y), none] [] M2
  refine pm_s_aload_n (j := 2) (by decide +kernel) rfl rfl ?_
  refine pm_callV2 mi_X10_thrown (ix := 135) (b := 47) (ci := 10) (kc2 := kc + 32) (ks2 := ks + 1000) (As := []) (rest := []) (c_X10_thrown M2) cal_X10_thrown lk11_135 (lr_fit (by decide) h1 h2) rfl (by decide +kernel) rfl rfl rfl rfl (Nat.le_of_ble_eq_true rfl) (Nat.le_refl _) (Nat.le_refl _) (fun _ _ h9 => h9.elim) ?_
  rintro _ _ ⟨rfl, h9⟩; rw [h9]; clear h9
  rw [h7]
  show pm_V mi_L_law _ _ _ 2129 [some (.ref 1000), some (.ref 0), some (.ref 47), some (.ref 55), some (.ref 56), some (.int (nI i)), some (.int k), some (.double y), none] [.int k] M2
  have back : pm_V mi_L_law (P, X, lr_Z L xs) (kc + 32) (ks + 1000) 2173 [some (.ref 1000), some (.ref 0), some (.ref 47), some (.ref 55), some (.ref 56), some (.int (nI i)), some (.int k), some (.double y), none] [] M2 := pm_s_goto (off := 82) (tgt := 2255) (by decide +kernel) (by decide) (pm_V.drop (lo' := [some (.ref 1000), some (.ref 0), some (.ref 47), some (.ref 55), some (.ref 56), some (.int (nI i)), none, none, none]) ⟨rfl, rfl, rfl, rfl, rfl, rfl, trivial⟩ (K M2 hV2))
  refine pm_s_iload (a := 6) (by decide +kernel) rfl ?_
  refine pm_icmp_eq (off := 5) 2136 (by decide +kernel) (by decide) (fun _ => ?_) (fun h => absurd rfl h)
  refine pm_s_iload (a := 6) (by decide +kernel) rfl ?_
  refine pm_if_ne (off := 35) 2173 (by decide +kernel) (by decide) (fun _ => back) (fun h0 => ?_)
  refine pm_s_aload (a := 4) (by decide +kernel) rfl ?_
  refine pm_s_iconst (z := 0) (v := 0) rfl (by decide +kernel) ?_
  refine pm_s_dald (r := 56) (n := 1) rfl (by unfold vp_in; decide) (by decide +kernel) ?_
  rw [show (0 : Int32).toNatClampNeg = 0 from by decide, hout h0]
  refine pm_s_dload (a := 7) (by decide +kernel) rfl ?_
  refine pm_s_dcmp (op := .l) (by decide +kernel) ?_
  refine pm_if_eq (off := 25) 2173 (by decide +kernel) (by decide) (fun _ => back) (fun hne => ?_)
  refine pm_s_aload (a := 4) (by decide +kernel) rfl ?_
  refine pm_s_iconst (z := 0) (v := 0) rfl (by decide +kernel) ?_
  refine pm_s_dald (r := 56) (n := 1) rfl (by unfold vp_in; decide) (by decide +kernel) ?_
  rw [show (0 : Int32).toNatClampNeg = 0 from by decide, hout h0]
  refine pm_s_aload (a := 4) (by decide +kernel) rfl ?_
  refine pm_s_iconst (z := 0) (v := 0) rfl (by decide +kernel) ?_
  refine pm_s_dald (r := 56) (n := 1) rfl (by unfold vp_in; decide) (by decide +kernel) ?_
  rw [show (0 : Int32).toNatClampNeg = 0 from by decide, hout h0]
  refine pm_s_dcmp (op := .l) (by decide +kernel) ?_
  refine pm_if_eq (off := 11) 2171 (by decide +kernel) (by decide) (fun h => absurd h hne) (fun _ => ?_)
  refine pm_s_dload (a := 7) (by decide +kernel) rfl ?_
  refine pm_s_dload (a := 7) (by decide +kernel) rfl ?_
  refine pm_s_dcmp (op := .l) (by decide +kernel) ?_
  refine pm_if_ne (off := 5) 2173 (by decide +kernel) (by decide) (fun _ => back) (fun h => absurd h hne)
set_option maxHeartbeats 4000000 in
set_option maxRecDepth 100000 in
theorem la_undo {P : Option Value → pm_Mm → Prop} {X : String → pm_Mm → Prop} {L : Nat} {xs : Nat → Int32} {kc ks i : Nat} (hi : i + 5 < L) (hL : L ≤ 3072) (h1 : kc + 32 ≤ 600000) (h2 : ks + 1000 ≤ 7000000) (μ : pm_Mm) (hV : lr_V μ.1) (K : ∀ M2 : pm_Mm, lr_V M2.1 → pm_V mi_L_law (P, X, lr_Z L xs) (kc + 32) (ks + 1000) 2255 [some (.ref 1000), some (.ref 0), some (.ref 47), some (.ref 55), some (.ref 56), some (.int (nI i)), none, none, none] [] M2) : pm_V mi_L_law (P, X, lr_Z L xs) kc ks 2176 [some (.ref 1000), some (.ref 0), some (.ref 47), some (.ref 55), some (.ref 56), some (.int (nI i)), none, none, none] [] μ := by
  have g1 : kc ≤ 600000 := by omega
  have g2 : ks ≤ 7000000 := by omega
  refine pm_s_aload_n (j := 1) (by decide +kernel) rfl rfl ?_
  refine pm_s_aload_n (j := 3) (by decide +kernel) rfl rfl ?_
  refine pm_callSH mi_L_undo (ix := 238) (n := 2) (As := [.ref 0, .ref 55]) (rest := []) (st_undo _ hV) cal_L_undo lk11_238 (lr_fit (by decide) g1 g2) rfl (by decide +kernel) rfl rfl (by decide) (fun _ _ h => h.elim) ?_
  rintro _ M ⟨k, rfl, hM⟩
  refine pm_V.grow (kc' := kc + 32) (ks' := ks + 1000) (Nat.add_le_add_left (by decide) _) (Nat.add_le_add_left (by decide) _) ?_
  show pm_V mi_L_law _ _ _ 2181 [some (.ref 1000), some (.ref 0), some (.ref 47), some (.ref 55), some (.ref 56), some (.int (nI i)), none, none, none] [.int k] M
  refine pm_s_istore (a := 6) (by decide +kernel) (by decide) rfl (Nat.le_of_ble_eq_true rfl) ?_
  show pm_V mi_L_law _ _ _ 2183 [some (.ref 1000), some (.ref 0), some (.ref 47), some (.ref 55), some (.ref 56), some (.int (nI i)), some (.int k), none, none] [] _
  refine pm_s_aload_n (j := 2) (by decide +kernel) rfl rfl ?_
  refine pm_callV2 mi_X10_undo (ix := 240) (b := 47) (ci := 10) (kc2 := kc + 32) (ks2 := ks + 1000) (As := []) (rest := []) hM cal_X10_undo lk11_240 (lr_fit (by decide) h1 h2) rfl (by decide +kernel) rfl rfl rfl rfl (Nat.le_of_ble_eq_true rfl) (Nat.le_refl _) (Nat.le_refl _) (fun _ _ h9 => h9.elim) ?_
  rintro _ M2 ⟨y, rfl, h7, hout, hV2⟩
  refine pm_s_istore (a := 7) (by decide +kernel) (by decide) rfl (Nat.le_of_ble_eq_true rfl) ?_
  show pm_V mi_L_law _ _ _ 2189 [some (.ref 1000), some (.ref 0), some (.ref 47), some (.ref 55), some (.ref 56), some (.int (nI i)), some (.int k), some (.int y), none] [] _
  refine pm_s_aload_n (j := 2) (by decide +kernel) rfl rfl ?_
  refine pm_callV2 mi_X10_thrown (ix := 135) (b := 47) (ci := 10) (kc2 := kc + 32) (ks2 := ks + 1000) (As := []) (rest := []) (c_X10_thrown M2) cal_X10_thrown lk11_135 (lr_fit (by decide) h1 h2) rfl (by decide +kernel) rfl rfl rfl rfl (Nat.le_of_ble_eq_true rfl) (Nat.le_refl _) (Nat.le_refl _) (fun _ _ h9 => h9.elim) ?_
  rintro _ _ ⟨rfl, h9⟩; rw [h9]; clear h9
  rw [h7]
  show pm_V mi_L_law _ _ _ 2193 [some (.ref 1000), some (.ref 0), some (.ref 47), some (.ref 55), some (.ref 56), some (.int (nI i)), some (.int k), some (.int y), none] [.int k] M2
  have back : pm_V mi_L_law (P, X, lr_Z L xs) (kc + 32) (ks + 1000) 2217 [some (.ref 1000), some (.ref 0), some (.ref 47), some (.ref 55), some (.ref 56), some (.int (nI i)), some (.int k), some (.int y), none] [] M2 := pm_s_goto (off := 38) (tgt := 2255) (by decide +kernel) (by decide) (pm_V.drop (lo' := [some (.ref 1000), some (.ref 0), some (.ref 47), some (.ref 55), some (.ref 56), some (.int (nI i)), none, none, none]) ⟨rfl, rfl, rfl, rfl, rfl, rfl, trivial⟩ (K M2 hV2))
  refine pm_s_iload (a := 6) (by decide +kernel) rfl ?_
  refine pm_icmp_eq (off := 5) 2200 (by decide +kernel) (by decide) (fun _ => ?_) (fun h => absurd rfl h)
  refine pm_s_iload (a := 6) (by decide +kernel) rfl ?_
  refine pm_if_ne (off := 15) 2217 (by decide +kernel) (by decide) (fun _ => back) (fun h0 => ?_)
  refine pm_s_aload_n (j := 3) (by decide +kernel) rfl rfl ?_
  refine pm_s_iconst (z := 0) (v := 0) rfl (by decide +kernel) ?_
  refine pm_s_lald (r := 55) (n := 1) rfl (by unfold vp_in; decide) (by decide +kernel) ?_
  rw [show (0 : Int32).toNatClampNeg = 0 from by decide, hout h0]
  refine pm_s_iload (a := 7) (by decide +kernel) rfl ?_
  refine pm_s_i2l (by decide +kernel) ?_
  refine pm_s_lcmp0 (by decide +kernel) ?_
  refine pm_if_eq (off := 5) 2217 (by decide +kernel) (by decide) (fun _ => back) (fun h => absurd rfl h)
set_option maxHeartbeats 4000000 in
set_option maxRecDepth 100000 in
theorem la_save {P : Option Value → pm_Mm → Prop} {X : String → pm_Mm → Prop} {L : Nat} {xs : Nat → Int32} {kc ks i : Nat} (hi : i + 5 < L) (hL : L ≤ 3072) (h1 : kc + 32 ≤ 600000) (h2 : ks + 1000 ≤ 7000000) (μ : pm_Mm) (hV : lr_V μ.1) (K : ∀ M2 : pm_Mm, lr_V M2.1 → pm_V mi_L_law (P, X, lr_Z L xs) (kc + 32) (ks + 1000) 2255 [some (.ref 1000), some (.ref 0), some (.ref 47), some (.ref 55), some (.ref 56), some (.int (nI i)), none, none, none] [] M2) : pm_V mi_L_law (P, X, lr_Z L xs) kc ks 2220 [some (.ref 1000), some (.ref 0), some (.ref 47), some (.ref 55), some (.ref 56), some (.int (nI i)), none, none, none] [] μ := by
  have g1 : kc ≤ 600000 := by omega
  have g2 : ks ≤ 7000000 := by omega
  refine pm_s_aload_n (j := 1) (by decide +kernel) rfl rfl ?_
  refine pm_callV2 mi_X9_save (ix := 241) (b := 0) (ci := 9) (kc2 := kc + 32) (ks2 := ks + 1000) (As := []) (rest := []) (st_save _ hV) cal_X9_save lk11_241 (lr_fit (by decide) g1 g2) rfl (by decide +kernel) rfl rfl rfl rfl (Nat.le_of_ble_eq_true rfl) (Nat.add_le_add_left (by decide) _) (Nat.add_le_add_left (by decide) _) (fun _ _ h9 => h9.elim) ?_
  rintro _ M ⟨rfl, hM⟩
  show pm_V mi_L_law _ _ _ 2224 [some (.ref 1000), some (.ref 0), some (.ref 47), some (.ref 55), some (.ref 56), some (.int (nI i)), none, none, none] [] M
  refine pm_s_aload_n (j := 2) (by decide +kernel) rfl rfl ?_
  refine pm_callV2 mi_X10_save (ix := 244) (b := 47) (ci := 10) (kc2 := kc + 32) (ks2 := ks + 1000) (As := []) (rest := []) hM cal_X10_save lk11_244 (lr_fit (by decide) h1 h2) rfl (by decide +kernel) rfl rfl rfl rfl (Nat.le_of_ble_eq_true rfl) (Nat.le_refl _) (Nat.le_refl _) (fun _ _ h9 => h9.elim) ?_
  rintro _ M2 ⟨rfl, hV2⟩
  show pm_V mi_L_law _ _ _ 2228 [some (.ref 1000), some (.ref 0), some (.ref 47), some (.ref 55), some (.ref 56), some (.int (nI i)), none, none, none] [] M2
  exact pm_s_goto (off := 27) (tgt := 2255) (by decide +kernel) (by decide) (K M2 hV2)
set_option maxHeartbeats 4000000 in
set_option maxRecDepth 100000 in
theorem la_restore {P : Option Value → pm_Mm → Prop} {X : String → pm_Mm → Prop} {L : Nat} {xs : Nat → Int32} {kc ks i : Nat} (hi : i + 5 < L) (hL : L ≤ 3072) (h1 : kc + 32 ≤ 600000) (h2 : ks + 1000 ≤ 7000000) (μ : pm_Mm) (hV : lr_V μ.1) (K : ∀ M2 : pm_Mm, lr_V M2.1 → pm_V mi_L_law (P, X, lr_Z L xs) (kc + 32) (ks + 1000) 2255 [some (.ref 1000), some (.ref 0), some (.ref 47), some (.ref 55), some (.ref 56), some (.int (nI i)), none, none, none] [] M2) : pm_V mi_L_law (P, X, lr_Z L xs) kc ks 2231 [some (.ref 1000), some (.ref 0), some (.ref 47), some (.ref 55), some (.ref 56), some (.int (nI i)), none, none, none] [] μ := by
  have g1 : kc ≤ 600000 := by omega
  have g2 : ks ≤ 7000000 := by omega
  refine pm_s_aload_n (j := 1) (by decide +kernel) rfl rfl ?_
  refine pm_callSH mi_L_restore (ix := 245) (n := 1) (As := [.ref 0]) (rest := []) (st_restore _ hV) cal_L_restore lk11_245 (lr_fit (by decide) g1 g2) rfl (by decide +kernel) rfl rfl (by decide) (fun _ _ h => h.elim) ?_
  rintro _ M ⟨k, rfl, hM⟩
  refine pm_V.grow (kc' := kc + 32) (ks' := ks + 1000) (Nat.add_le_add_left (by decide) _) (Nat.add_le_add_left (by decide) _) ?_
  show pm_V mi_L_law _ _ _ 2235 [some (.ref 1000), some (.ref 0), some (.ref 47), some (.ref 55), some (.ref 56), some (.int (nI i)), none, none, none] [.int k] M
  refine pm_s_istore (a := 6) (by decide +kernel) (by decide) rfl (Nat.le_of_ble_eq_true rfl) ?_
  show pm_V mi_L_law _ _ _ 2237 [some (.ref 1000), some (.ref 0), some (.ref 47), some (.ref 55), some (.ref 56), some (.int (nI i)), some (.int k), none, none] [] _
  refine pm_s_aload_n (j := 2) (by decide +kernel) rfl rfl ?_
  refine pm_callV2 mi_X10_restore (ix := 248) (b := 47) (ci := 10) (kc2 := kc + 32) (ks2 := ks + 1000) (As := []) (rest := []) hM cal_X10_restore lk11_248 (lr_fit (by decide) h1 h2) rfl (by decide +kernel) rfl rfl rfl rfl (Nat.le_of_ble_eq_true rfl) (Nat.le_refl _) (Nat.le_refl _) (fun _ _ h9 => h9.elim) ?_
  rintro _ M2 ⟨rfl, h7, hV2⟩
  show pm_V mi_L_law _ _ _ 2241 [some (.ref 1000), some (.ref 0), some (.ref 47), some (.ref 55), some (.ref 56), some (.int (nI i)), some (.int k), none, none] [] M2
  refine pm_s_aload_n (j := 2) (by decide +kernel) rfl rfl ?_
  refine pm_callV2 mi_X10_thrown (ix := 135) (b := 47) (ci := 10) (kc2 := kc + 32) (ks2 := ks + 1000) (As := []) (rest := []) (c_X10_thrown M2) cal_X10_thrown lk11_135 (lr_fit (by decide) h1 h2) rfl (by decide +kernel) rfl rfl rfl rfl (Nat.le_of_ble_eq_true rfl) (Nat.le_refl _) (Nat.le_refl _) (fun _ _ h9 => h9.elim) ?_
  rintro _ _ ⟨rfl, h9⟩; rw [h9]; clear h9
  rw [h7]
  show pm_V mi_L_law _ _ _ 2245 [some (.ref 1000), some (.ref 0), some (.ref 47), some (.ref 55), some (.ref 56), some (.int (nI i)), some (.int k), none, none] [.int k] M2
  have back : pm_V mi_L_law (P, X, lr_Z L xs) (kc + 32) (ks + 1000) 2252 [some (.ref 1000), some (.ref 0), some (.ref 47), some (.ref 55), some (.ref 56), some (.int (nI i)), some (.int k), none, none] [] M2 := pm_s_goto (off := 3) (tgt := 2255) (by decide +kernel) (by decide) (pm_V.drop (lo' := [some (.ref 1000), some (.ref 0), some (.ref 47), some (.ref 55), some (.ref 56), some (.int (nI i)), none, none, none]) ⟨rfl, rfl, rfl, rfl, rfl, rfl, trivial⟩ (K M2 hV2))
  refine pm_s_iload (a := 6) (by decide +kernel) rfl ?_
  refine pm_icmp_eq (off := 5) 2252 (by decide +kernel) (by decide) (fun _ => ?_) (fun h => absurd rfl h)
  exact back
