/-! a case of the law, up to its wrapper -/
theorem lr_fit {mi2 : pm_Mi} {kc ks : Nat} (h : pm_fit mi_L_law mi2 600000 7000000 = true) (h1 : kc ≤ 600000) (h2 : ks ≤ 7000000) : pm_fit mi_L_law mi2 kc ks = true := by
  simp only [pm_fit, Bool.and_eq_true, decide_eq_true_eq] at h ⊢
  exact ⟨h.1, h.2.1, Nat.le_trans (Nat.add_le_add_right h1 _) h.2.2.1, Nat.le_trans (Nat.add_le_add_right h2 _) h.2.2.2⟩
theorem la1_addHouse {P : Option Value → pm_Mm → Prop} {X : String → pm_Mm → Prop} {L : Nat} {xs : Nat → Int32} {kc ks i : Nat} (hi : i + 5 < L) (hL : L ≤ 3072) (h1 : kc ≤ 600000) (h2 : ks ≤ 7000000) (μ : pm_Mm) (hV : lr_V μ.1)
    (K : ∀ (M : pm_Mm) (k : Int32), pm_CT mi_X10_addHouse [.ref 47, .int (xs (i + 1)), .int (xs (i + 2))] M (fun b M2 => ∃ y : Int32, b = some (.int y) ∧ M2.1 47 7 = k ∧ (k = 0 → M2.2.1 0 = y.toInt64) ∧ lr_V M2.1) pm_NX → pm_V mi_L_law (P, X, lr_Z L xs) (kc + (pm_rm mi_L_addHouse).cells) (ks + (pm_rm mi_L_addHouse).slots) 213 [some (.ref 1000), some (.ref 0), some (.ref 47), some (.ref 55), some (.ref 56), some (.int (nI i)), none, none, none] [.int k] M) : pm_V mi_L_law (P, X, lr_Z L xs) kc ks 196 [some (.ref 1000), some (.ref 0), some (.ref 47), some (.ref 55), some (.ref 56), some (.int (nI i)), none, none, none] [] μ := by
  refine pm_s_aload_n (j := 1) (by decide +kernel) rfl rfl ?_
  refine pm_s_arg (i := i) (j := 1) (kk := 1) rfl rfl rfl (by omega) hL (by decide +kernel) (by decide +kernel) (by decide +kernel) (by decide +kernel) (by decide +kernel) ?_
  refine pm_s_arg (i := i) (j := 2) (kk := 2) rfl rfl rfl (by omega) hL (by decide +kernel) (by decide +kernel) (by decide +kernel) (by decide +kernel) (by decide +kernel) ?_
  refine pm_s_aload_n (j := 3) (by decide +kernel) rfl rfl ?_
  refine pm_callSH mi_L_addHouse (ix := 129) (n := 4) (As := [.ref 0, .int (xs (i + 1)), .int (xs (i + 2)), .ref 55]) (rest := []) (st_addHouse _ _ μ hV) cal_L_addHouse lk11_129 (lr_fit (by decide) h1 h2) rfl (by decide +kernel) rfl rfl (by decide) (fun _ _ h => h.elim) ?_
  rintro _ M ⟨k, rfl, hM⟩
  exact K M k hM
theorem la2_addHouse {P : Option Value → pm_Mm → Prop} {X : String → pm_Mm → Prop} {L : Nat} {xs : Nat → Int32} {kc ks i : Nat} (hi : i + 5 < L) (hL : L ≤ 3072) (h1 : kc ≤ 600000) (h2 : ks ≤ 7000000) (M : pm_Mm) (k : Int32) (hM : pm_CT mi_X10_addHouse [.ref 47, .int (xs (i + 1)), .int (xs (i + 2))] M (fun b M2 => ∃ y : Int32, b = some (.int y) ∧ M2.1 47 7 = k ∧ (k = 0 → M2.2.1 0 = y.toInt64) ∧ lr_V M2.1) pm_NX)
    (K : ∀ (M2 : pm_Mm) (y : Int32), lr_V M2.1 → M2.1 47 7 = k → (k = 0 → M2.2.1 0 = y.toInt64) → pm_V mi_L_law (P, X, lr_Z L xs) kc ks 231 [some (.ref 1000), some (.ref 0), some (.ref 47), some (.ref 55), some (.ref 56), some (.int (nI i)), some (.int k), none, none] [.int y] M2) : pm_V mi_L_law (P, X, lr_Z L xs) kc ks 213 [some (.ref 1000), some (.ref 0), some (.ref 47), some (.ref 55), some (.ref 56), some (.int (nI i)), none, none, none] [.int k] M := by
  refine pm_s_istore (a := 6) (by decide +kernel) (by decide) rfl (Nat.le_of_ble_eq_true rfl) ?_
  show pm_V mi_L_law _ _ _ 215 [some (.ref 1000), some (.ref 0), some (.ref 47), some (.ref 55), some (.ref 56), some (.int (nI i)), some (.int k), none, none] [] M
  refine pm_s_aload_n (j := 2) (by decide +kernel) rfl rfl ?_
  refine pm_s_arg (i := i) (j := 1) (kk := 1) rfl rfl rfl (by omega) hL (by decide +kernel) (by decide +kernel) (by decide +kernel) (by decide +kernel) (by decide +kernel) ?_
  refine pm_s_arg (i := i) (j := 2) (kk := 2) rfl rfl rfl (by omega) hL (by decide +kernel) (by decide +kernel) (by decide +kernel) (by decide +kernel) (by decide +kernel) ?_
  refine pm_callV2 mi_X10_addHouse (ix := 134) (b := 47) (ci := 10) (kc2 := kc) (ks2 := ks) (As := [.int (xs (i + 1)), .int (xs (i + 2))]) (rest := []) hM cal_X10_addHouse lk11_134 (lr_fit (by decide) h1 h2) rfl (by decide +kernel) rfl rfl rfl rfl (Nat.le_of_ble_eq_true rfl) (Nat.le_refl _) (Nat.le_refl _) (fun _ _ h9 => h9.elim) ?_
  rintro _ M2 ⟨y, rfl, h7, hout, hV2⟩
  exact K M2 y hV2 h7 hout
theorem la3_addHouse {P : Option Value → pm_Mm → Prop} {X : String → pm_Mm → Prop} {L : Nat} {xs : Nat → Int32} {kc ks i : Nat} (h1 : kc ≤ 600000) (h2 : ks ≤ 7000000) (M2 : pm_Mm) (k y : Int32) (h7 : M2.1 47 7 = k) (hout : k = 0 → M2.2.1 0 = y.toInt64)
    (K : pm_V mi_L_law (P, X, lr_Z L xs) kc ks 2255 [some (.ref 1000), some (.ref 0), some (.ref 47), some (.ref 55), some (.ref 56), some (.int (nI i)), some (.int k), some (.int y), none] [] M2) : pm_V mi_L_law (P, X, lr_Z L xs) kc ks 231 [some (.ref 1000), some (.ref 0), some (.ref 47), some (.ref 55), some (.ref 56), some (.int (nI i)), some (.int k), none, none] [.int y] M2 := by
  refine pm_s_istore (a := 7) (by decide +kernel) (by decide) rfl (Nat.le_of_ble_eq_true rfl) ?_
  show pm_V mi_L_law _ _ _ 233 [some (.ref 1000), some (.ref 0), some (.ref 47), some (.ref 55), some (.ref 56), some (.int (nI i)), some (.int k), some (.int y), none] [] M2
  refine pm_s_aload_n (j := 2) (by decide +kernel) rfl rfl ?_
  refine pm_callV2 mi_X10_thrown (ix := 135) (b := 47) (ci := 10) (kc2 := kc) (ks2 := ks) (As := []) (rest := []) (c_X10_thrown M2) cal_X10_thrown lk11_135 (lr_fit (by decide) h1 h2) rfl (by decide +kernel) rfl rfl rfl rfl (Nat.le_of_ble_eq_true rfl) (Nat.le_refl _) (Nat.le_refl _) (fun _ _ h9 => h9.elim) ?_
  rintro _ _ ⟨rfl, h9⟩; rw [h9]; clear h9
  rw [h7]
  show pm_V mi_L_law _ _ _ 237 [some (.ref 1000), some (.ref 0), some (.ref 47), some (.ref 55), some (.ref 56), some (.int (nI i)), some (.int k), some (.int y), none] [.int k] M2
  have back : pm_V mi_L_law (P, X, lr_Z L xs) kc ks 261 [some (.ref 1000), some (.ref 0), some (.ref 47), some (.ref 55), some (.ref 56), some (.int (nI i)), some (.int k), some (.int y), none] [] M2 := pm_s_goto (off := 1994) (by decide +kernel) (by decide) K
  refine pm_s_iload (a := 6) (by decide +kernel) rfl ?_
  refine pm_icmp_eq (off := 5) 244 (by decide +kernel) (by decide) (fun _ => ?_) (fun h => absurd rfl h)
  refine pm_s_iload (a := 6) (by decide +kernel) rfl ?_
  refine pm_if_ne (off := 15) 261 (by decide +kernel) (by decide) (fun _ => back) (fun h0 => ?_)
  refine pm_s_aload_n (j := 3) (by decide +kernel) rfl rfl ?_
  refine pm_s_iconst (z := 0) (v := 0) rfl (by decide +kernel) ?_
  refine pm_s_lald (r := 55) (n := 1) rfl (by unfold vp_in; decide) (by decide +kernel) ?_
  rw [show (0 : Int32).toNatClampNeg = 0 from by decide, hout h0]
  refine pm_s_iload (a := 7) (by decide +kernel) rfl ?_
  refine pm_s_i2l (by decide +kernel) ?_
  refine pm_s_lcmp0 (by decide +kernel) ?_
  exact pm_if_eq (off := 5) 261 (by decide +kernel) (by decide) (fun _ => back) (fun h => absurd rfl h)
