/-! the law's note wrappers as callees; their cases -/
theorem cal_L_noteLength : pm_CalH mi_L_noteLength 3 := ⟨pm_tab (i := 942) (by decide +kernel) rfl, pm_tab (i := 0) (by decide +kernel) rfl, rfl, ⟨by decide +kernel, by decide +kernel, by decide +kernel⟩, pm_tab (i := 941) (by decide +kernel) rfl⟩
theorem cal_L_note : pm_CalH mi_L_note 4 := ⟨pm_tab (i := 1119) (by decide +kernel) rfl, pm_tab (i := 0) (by decide +kernel) rfl, rfl, ⟨by decide +kernel, by decide +kernel, by decide +kernel⟩, pm_tab (i := 1118) (by decide +kernel) rfl⟩
set_option maxHeartbeats 4000000 in
set_option maxRecDepth 100000 in
theorem la_noteLength {P : Option Value → pm_Mm → Prop} {X : String → pm_Mm → Prop} {L : Nat} {xs : Nat → Int32} {kc ks i : Nat} (hi : i + 5 < L) (hL : L ≤ 3072) (h1 : kc + 32 ≤ 600000) (h2 : ks + 1000 ≤ 7000000) (μ : pm_Mm) (hV : lr_V μ.1) (K : ∀ M2 : pm_Mm, lr_V M2.1 → pm_V mi_L_law (P, X, lr_Z L xs) (kc + 32) (ks + 1000) 2255 [some (.ref 1000), some (.ref 0), some (.ref 47), some (.ref 55), some (.ref 56), some (.int (nI i)), none, none, none] [] M2) : pm_V mi_L_law (P, X, lr_Z L xs) kc ks 1694 [some (.ref 1000), some (.ref 0), some (.ref 47), some (.ref 55), some (.ref 56), some (.int (nI i)), none, none, none] [] μ := by
  have g1 : kc ≤ 600000 := by omega
  have g2 : ks ≤ 7000000 := by omega
  refine pm_s_aload_n (j := 1) (by decide +kernel) rfl rfl ?_
  refine pm_s_arg (i := i) (j := 1) (kk := 1) rfl rfl rfl (by omega) hL (by decide +kernel) (by decide +kernel) (by decide +kernel) (by decide +kernel) (by decide +kernel) ?_
  refine pm_s_aload_n (j := 3) (by decide +kernel) rfl rfl ?_
  refine pm_callSH mi_L_noteLength (ix := 209) (n := 3) (As := [.ref 0, .int (xs (i + 1)), .ref 55]) (rest := []) (st_noteLength _ _ hV) cal_L_noteLength lk11_209 (lr_fit (by decide) g1 g2) rfl (by decide +kernel) rfl rfl (by decide) (fun _ _ h => h.elim) ?_
  rintro _ M ⟨k, rfl, hM⟩
  refine pm_V.grow (kc' := kc + 32) (ks' := ks + 1000) (Nat.add_le_add_left (by decide) _) (Nat.add_le_add_left (by decide) _) ?_
  show pm_V mi_L_law _ _ _ 1705 [some (.ref 1000), some (.ref 0), some (.ref 47), some (.ref 55), some (.ref 56), some (.int (nI i)), none, none, none] [.int k] M
  refine pm_s_istore (a := 6) (by decide +kernel) (by decide) rfl (Nat.le_of_ble_eq_true rfl) ?_
  show pm_V mi_L_law _ _ _ 1707 [some (.ref 1000), some (.ref 0), some (.ref 47), some (.ref 55), some (.ref 56), some (.int (nI i)), some (.int k), none, none] [] _
  refine pm_s_aload_n (j := 2) (by decide +kernel) rfl rfl ?_
  refine pm_s_arg (i := i) (j := 1) (kk := 1) rfl rfl rfl (by omega) hL (by decide +kernel) (by decide +kernel) (by decide +kernel) (by decide +kernel) (by decide +kernel) ?_
  refine pm_callV2 mi_X10_noteLength (ix := 211) (b := 47) (ci := 10) (kc2 := kc + 32) (ks2 := ks + 1000) (As := [.int (xs (i + 1))]) (rest := []) hM cal_X10_noteLength lk11_211 (lr_fit (by decide) h1 h2) rfl (by decide +kernel) rfl rfl rfl rfl (Nat.le_of_ble_eq_true rfl) (Nat.le_refl _) (Nat.le_refl _) (fun _ _ h9 => h9.elim) ?_
  rintro _ M2 ⟨y, rfl, h7, hout, hV2⟩
  refine pm_s_istore (a := 7) (by decide +kernel) (by decide) rfl (Nat.le_of_ble_eq_true rfl) ?_
  show pm_V mi_L_law _ _ _ 1719 [some (.ref 1000), some (.ref 0), some (.ref 47), some (.ref 55), some (.ref 56), some (.int (nI i)), some (.int k), some (.int y), none] [] _
  refine pm_s_aload_n (j := 2) (by decide +kernel) rfl rfl ?_
  refine pm_callV2 mi_X10_thrown (ix := 135) (b := 47) (ci := 10) (kc2 := kc + 32) (ks2 := ks + 1000) (As := []) (rest := []) (c_X10_thrown M2) cal_X10_thrown lk11_135 (lr_fit (by decide) h1 h2) rfl (by decide +kernel) rfl rfl rfl rfl (Nat.le_of_ble_eq_true rfl) (Nat.le_refl _) (Nat.le_refl _) (fun _ _ h9 => h9.elim) ?_
  rintro _ _ ⟨rfl, h9⟩; rw [h9]; clear h9
  rw [h7]
  show pm_V mi_L_law _ _ _ 1723 [some (.ref 1000), some (.ref 0), some (.ref 47), some (.ref 55), some (.ref 56), some (.int (nI i)), some (.int k), some (.int y), none] [.int k] M2
  have back : pm_V mi_L_law (P, X, lr_Z L xs) (kc + 32) (ks + 1000) 1747 [some (.ref 1000), some (.ref 0), some (.ref 47), some (.ref 55), some (.ref 56), some (.int (nI i)), some (.int k), some (.int y), none] [] M2 := pm_s_goto (off := 508) (tgt := 2255) (by decide +kernel) (by decide) (pm_V.drop (lo' := [some (.ref 1000), some (.ref 0), some (.ref 47), some (.ref 55), some (.ref 56), some (.int (nI i)), none, none, none]) ⟨rfl, rfl, rfl, rfl, rfl, rfl, trivial⟩ (K M2 hV2))
  refine pm_s_iload (a := 6) (by decide +kernel) rfl ?_
  refine pm_icmp_eq (off := 5) 1730 (by decide +kernel) (by decide) (fun _ => ?_) (fun h => absurd rfl h)
  refine pm_s_iload (a := 6) (by decide +kernel) rfl ?_
  refine pm_if_ne (off := 15) 1747 (by decide +kernel) (by decide) (fun _ => back) (fun h0 => ?_)
  refine pm_s_aload_n (j := 3) (by decide +kernel) rfl rfl ?_
  refine pm_s_iconst (z := 0) (v := 0) rfl (by decide +kernel) ?_
  refine pm_s_lald (r := 55) (n := 1) rfl (by unfold vp_in; decide) (by decide +kernel) ?_
  rw [show (0 : Int32).toNatClampNeg = 0 from by decide, hout h0]
  refine pm_s_iload (a := 7) (by decide +kernel) rfl ?_
  refine pm_s_i2l (by decide +kernel) ?_
  refine pm_s_lcmp0 (by decide +kernel) ?_
  refine pm_if_eq (off := 5) 1747 (by decide +kernel) (by decide) (fun _ => back) (fun h => absurd rfl h)
set_option maxHeartbeats 4000000 in
set_option maxRecDepth 100000 in
theorem la_note {P : Option Value → pm_Mm → Prop} {X : String → pm_Mm → Prop} {L : Nat} {xs : Nat → Int32} {kc ks i : Nat} (hi : i + 5 < L) (hL : L ≤ 3072) (h1 : kc + 32 ≤ 600000) (h2 : ks + 1000 ≤ 7000000) (μ : pm_Mm) (hV : lr_V μ.1) (K : ∀ M2 : pm_Mm, lr_V M2.1 → pm_V mi_L_law (P, X, lr_Z L xs) (kc + 32) (ks + 1000) 2255 [some (.ref 1000), some (.ref 0), some (.ref 47), some (.ref 55), some (.ref 56), some (.int (nI i)), none, none, none] [] M2) : pm_V mi_L_law (P, X, lr_Z L xs) kc ks 1750 [some (.ref 1000), some (.ref 0), some (.ref 47), some (.ref 55), some (.ref 56), some (.int (nI i)), none, none, none] [] μ := by
  have g1 : kc ≤ 600000 := by omega
  have g2 : ks ≤ 7000000 := by omega
  refine pm_s_aload_n (j := 1) (by decide +kernel) rfl rfl ?_
  refine pm_s_arg (i := i) (j := 1) (kk := 1) rfl rfl rfl (by omega) hL (by decide +kernel) (by decide +kernel) (by decide +kernel) (by decide +kernel) (by decide +kernel) ?_
  refine pm_s_arg (i := i) (j := 2) (kk := 2) rfl rfl rfl (by omega) hL (by decide +kernel) (by decide +kernel) (by decide +kernel) (by decide +kernel) (by decide +kernel) ?_
  refine pm_s_aload_n (j := 3) (by decide +kernel) rfl rfl ?_
  refine pm_callSH mi_L_note (ix := 212) (n := 4) (As := [.ref 0, .int (xs (i + 1)), .int (xs (i + 2)), .ref 55]) (rest := []) (st_note _ _ _ hV) cal_L_note lk11_212 (lr_fit (by decide) g1 g2) rfl (by decide +kernel) rfl rfl (by decide) (fun _ _ h => h.elim) ?_
  rintro _ M ⟨k, rfl, hM⟩
  refine pm_V.grow (kc' := kc + 32) (ks' := ks + 1000) (Nat.add_le_add_left (by decide) _) (Nat.add_le_add_left (by decide) _) ?_
  show pm_V mi_L_law _ _ _ 1767 [some (.ref 1000), some (.ref 0), some (.ref 47), some (.ref 55), some (.ref 56), some (.int (nI i)), none, none, none] [.int k] M
  refine pm_s_istore (a := 6) (by decide +kernel) (by decide) rfl (Nat.le_of_ble_eq_true rfl) ?_
  show pm_V mi_L_law _ _ _ 1769 [some (.ref 1000), some (.ref 0), some (.ref 47), some (.ref 55), some (.ref 56), some (.int (nI i)), some (.int k), none, none] [] _
  refine pm_s_aload_n (j := 2) (by decide +kernel) rfl rfl ?_
  refine pm_s_arg (i := i) (j := 1) (kk := 1) rfl rfl rfl (by omega) hL (by decide +kernel) (by decide +kernel) (by decide +kernel) (by decide +kernel) (by decide +kernel) ?_
  refine pm_s_arg (i := i) (j := 2) (kk := 2) rfl rfl rfl (by omega) hL (by decide +kernel) (by decide +kernel) (by decide +kernel) (by decide +kernel) (by decide +kernel) ?_
  refine pm_callV2 mi_X10_note (ix := 214) (b := 47) (ci := 10) (kc2 := kc + 32) (ks2 := ks + 1000) (As := [.int (xs (i + 1)), .int (xs (i + 2))]) (rest := []) hM cal_X10_note lk11_214 (lr_fit (by decide) h1 h2) rfl (by decide +kernel) rfl rfl rfl rfl (Nat.le_of_ble_eq_true rfl) (Nat.le_refl _) (Nat.le_refl _) (fun _ _ h9 => h9.elim) ?_
  rintro _ M2 ⟨y, rfl, h7, hout, hV2⟩
  refine pm_s_istore (a := 7) (by decide +kernel) (by decide) rfl (Nat.le_of_ble_eq_true rfl) ?_
  show pm_V mi_L_law _ _ _ 1787 [some (.ref 1000), some (.ref 0), some (.ref 47), some (.ref 55), some (.ref 56), some (.int (nI i)), some (.int k), some (.int y), none] [] _
  refine pm_s_aload_n (j := 2) (by decide +kernel) rfl rfl ?_
  refine pm_callV2 mi_X10_thrown (ix := 135) (b := 47) (ci := 10) (kc2 := kc + 32) (ks2 := ks + 1000) (As := []) (rest := []) (c_X10_thrown M2) cal_X10_thrown lk11_135 (lr_fit (by decide) h1 h2) rfl (by decide +kernel) rfl rfl rfl rfl (Nat.le_of_ble_eq_true rfl) (Nat.le_refl _) (Nat.le_refl _) (fun _ _ h9 => h9.elim) ?_
  rintro _ _ ⟨rfl, h9⟩; rw [h9]; clear h9
  rw [h7]
  show pm_V mi_L_law _ _ _ 1791 [some (.ref 1000), some (.ref 0), some (.ref 47), some (.ref 55), some (.ref 56), some (.int (nI i)), some (.int k), some (.int y), none] [.int k] M2
  have back : pm_V mi_L_law (P, X, lr_Z L xs) (kc + 32) (ks + 1000) 1815 [some (.ref 1000), some (.ref 0), some (.ref 47), some (.ref 55), some (.ref 56), some (.int (nI i)), some (.int k), some (.int y), none] [] M2 := pm_s_goto (off := 440) (tgt := 2255) (by decide +kernel) (by decide) (pm_V.drop (lo' := [some (.ref 1000), some (.ref 0), some (.ref 47), some (.ref 55), some (.ref 56), some (.int (nI i)), none, none, none]) ⟨rfl, rfl, rfl, rfl, rfl, rfl, trivial⟩ (K M2 hV2))
  refine pm_s_iload (a := 6) (by decide +kernel) rfl ?_
  refine pm_icmp_eq (off := 5) 1798 (by decide +kernel) (by decide) (fun _ => ?_) (fun h => absurd rfl h)
  refine pm_s_iload (a := 6) (by decide +kernel) rfl ?_
  refine pm_if_ne (off := 15) 1815 (by decide +kernel) (by decide) (fun _ => back) (fun h0 => ?_)
  refine pm_s_aload_n (j := 3) (by decide +kernel) rfl rfl ?_
  refine pm_s_iconst (z := 0) (v := 0) rfl (by decide +kernel) ?_
  refine pm_s_lald (r := 55) (n := 1) rfl (by unfold vp_in; decide) (by decide +kernel) ?_
  rw [show (0 : Int32).toNatClampNeg = 0 from by decide, hout h0]
  refine pm_s_iload (a := 7) (by decide +kernel) rfl ?_
  refine pm_s_i2l (by decide +kernel) ?_
  refine pm_s_lcmp0 (by decide +kernel) ?_
  refine pm_if_eq (off := 5) 1815 (by decide +kernel) (by decide) (fun _ => back) (fun h => absurd rfl h)
