/-! a builder of text: its methods' contracts -/
theorem sb_cf : pm_CF 11 := ⟨RJ4, TJ4, 4, tyJ4, rfl, fun w hw => pm_good_in (List.mem_append_right _ (by rw [show u_ws RJ4 TJ4 4 = [972, 974, 976, 978].filterMap (fun i => tables_1[i]?) by decide +kernel] at hw; obtain ⟨i, -, hi⟩ := List.mem_filterMap.mp hw; exact List.mem_of_getElem? hi)) (List.all_eq_true.mp (show (u_ws RJ4 TJ4 4).all goodWord = true by decide +kernel) w hw), tyJ4_ok, nmJ4⟩
/-- a builder at b, its bytes at va: n signs in m places -/
abbrev sb_w (tc : Nat → ClassId) (b va n m : Nat) (a : Nat → Int32) : va_W := [(b, .inr (11, [.ref va, .int 0, .int 0, .int (nI n)])), (va, .inl (tc 5, m, .inl a))]
/-- its text is L -/
def sb_I (L : List Nat) (m : Nat) (a : Nat → Int32) : Prop := (∀ i, i < L.length → L.getD i 0 < 256 ∧ a i = sb_b (L.getD i 0)) ∧ sb_Fit a ∧ L.length ≤ m ∧ (m = 16 ∨ m = 34)
theorem sb_v2 (c : Nat) : vp_nar .byte (sb_b c) = sb_b c := pk_vb _
theorem sb_v1 (c : Nat) : vp_nar .byte (nI c) = sb_b c := vp_nar_byte _
abbrev mi_J6_stringSize_0f7a4 : pm_Mi := (14, yJ6_stringSize_0f7a4, cJ6_stringSize_0f7a4, 4, some .int, { frames := 1, cells := 0, slots := 0, locals := 80 }, [])
theorem cal_J6_stringSize_0f7a4 : pm_Cal mi_J6_stringSize_0f7a4 1 := ⟨pm_tab (i := 1081) (by decide +kernel) rfl, pm_tab (i := 32) (by decide +kernel) rfl, rfl, by decide +kernel, by decide +kernel, by decide +kernel⟩
abbrev mi_J6_getChars_ba4f3 : pm_Mi := (14, yJ6_getChars_ba4f3, cJ6_getChars_ba4f3, 7, some .int, { frames := 1, cells := 0, slots := 0, locals := 80 }, [])
theorem cal_J6_getChars_ba4f3 : pm_Cal mi_J6_getChars_ba4f3 3 := ⟨pm_tab (i := 1084) (by decide +kernel) rfl, pm_tab (i := 32) (by decide +kernel) rfl, rfl, by decide +kernel, by decide +kernel, by decide +kernel⟩
abbrev mi_J1_canEncode_fc78d : pm_Mi := (17, yJ1_canEncode_fc78d, cJ1_canEncode_fc78d, 1, some .boolean, { frames := 1, cells := 0, slots := 0, locals := 80 }, [])
theorem cal_J1_canEncode_fc78d : pm_Cal mi_J1_canEncode_fc78d 1 := ⟨pm_tab (i := 1026) (by decide +kernel) rfl, pm_tab (i := 29) (by decide +kernel) rfl, rfl, by decide +kernel, by decide +kernel, by decide +kernel⟩
abbrev mi_J5_isLatin1_aae02 : pm_Mi := (12, yJ5_isLatin1_aae02, cJ5_isLatin1_aae02, 1, some .boolean, { frames := 1, cells := 0, slots := 0, locals := 80 }, [])
theorem cal_J5_isLatin1_aae02 : pm_Cal mi_J5_isLatin1_aae02 0 := ⟨pm_tab (i := 1023) (by decide +kernel) rfl, pm_tab (i := 24) (by decide +kernel) rfl, rfl, by decide +kernel, by decide +kernel, by decide +kernel⟩
abbrev mi_J8_newLength_cabcc : pm_Mi := (16, yJ8_newLength_cabcc, cJ8_newLength_cabcc, 4, some .int, { frames := 2, cells := 0, slots := 0, locals := 80 }, [])
theorem cal_J8_newLength_cabcc : pm_Cal mi_J8_newLength_cabcc 3 := ⟨pm_tab (i := 998) (by decide +kernel) rfl, pm_tab (i := 27) (by decide +kernel) rfl, rfl, by decide +kernel, by decide +kernel, by decide +kernel⟩
abbrev mi_J5_newCapacity_0f7a4 : pm_Mi := (12, yJ5_newCapacity_0f7a4, cJ5_newCapacity_0f7a4, 6, some .int, { frames := 3, cells := 0, slots := 0, locals := 103 }, [])
theorem cal_J5_newCapacity_0f7a4 : pm_Cal mi_J5_newCapacity_0f7a4 1 := ⟨pm_tab (i := 995) (by decide +kernel) rfl, pm_tab (i := 24) (by decide +kernel) rfl, rfl, by decide +kernel, by decide +kernel, by decide +kernel⟩
abbrev mi_J7_copyOf_9075b : pm_Mi := (15, yJ7_copyOf_9075b, cJ7_copyOf_9075b, 3, some (.array .byte), { frames := 2, cells := 1, slots := 34, locals := 80 }, [])
theorem cal_J7_copyOf_9075b : pm_Cal mi_J7_copyOf_9075b 2 := ⟨pm_tab (i := 1009) (by decide +kernel) rfl, pm_tab (i := 28) (by decide +kernel) rfl, rfl, by decide +kernel, by decide +kernel, by decide +kernel⟩
abbrev mi_J5_ensureCapacityInternal_d00df : pm_Mi := (12, yJ5_ensureCapacityInternal_d00df, cJ5_ensureCapacityInternal_d00df, 3, none, { frames := 4, cells := 1, slots := 34, locals := 128 }, [])
theorem cal_J5_ensureCapacityInternal_d00df : pm_Cal mi_J5_ensureCapacityInternal_d00df 1 := ⟨pm_tab (i := 991) (by decide +kernel) rfl, pm_tab (i := 24) (by decide +kernel) rfl, rfl, by decide +kernel, by decide +kernel, by decide +kernel⟩
abbrev mi_J5_append_3fe6f : pm_Mi := (12, yJ5_append_3fe6f, cJ5_append_3fe6f, 2, some (.object "java/lang/AbstractStringBuilder"), { frames := 5, cells := 1, slots := 34, locals := 150 }, [])
theorem cal_J5_append_3fe6f : pm_Cal mi_J5_append_3fe6f 1 := ⟨pm_tab (i := 987) (by decide +kernel) rfl, pm_tab (i := 24) (by decide +kernel) rfl, rfl, by decide +kernel, by decide +kernel, by decide +kernel⟩
abbrev mi_J4_append_cf468 : pm_Mi := (13, yJ4_append_cf468, cJ4_append_cf468, 2, some (.object "java/lang/StringBuilder"), { frames := 6, cells := 1, slots := 34, locals := 171 }, [])
theorem cal_J4_append_cf468 : pm_Cal mi_J4_append_cf468 1 := ⟨pm_tab (i := 984) (by decide +kernel) rfl, pm_tab (i := 25) (by decide +kernel) rfl, rfl, by decide +kernel, by decide +kernel, by decide +kernel⟩
abbrev mi_J5_append_c97b9 : pm_Mi := (12, yJ5_append_c97b9, cJ5_append_c97b9, 4, some (.object "java/lang/AbstractStringBuilder"), { frames := 5, cells := 1, slots := 34, locals := 150 }, [])
theorem cal_J5_append_c97b9 : pm_Cal mi_J5_append_c97b9 1 := ⟨pm_tab (i := 1078) (by decide +kernel) rfl, pm_tab (i := 24) (by decide +kernel) rfl, rfl, by decide +kernel, by decide +kernel, by decide +kernel⟩
abbrev mi_J4_append_bf812 : pm_Mi := (13, yJ4_append_bf812, cJ4_append_bf812, 2, some (.object "java/lang/StringBuilder"), { frames := 6, cells := 1, slots := 34, locals := 173 }, [])
theorem cal_J4_append_bf812 : pm_Cal mi_J4_append_bf812 1 := ⟨pm_tab (i := 1075) (by decide +kernel) rfl, pm_tab (i := 25) (by decide +kernel) rfl, rfl, by decide +kernel, by decide +kernel, by decide +kernel⟩
abbrev mi_J3_checkIndex_8e157 : pm_Mi := (18, yJ3_checkIndex_8e157, cJ3_checkIndex_8e157, 3, some .int, { frames := 1, cells := 0, slots := 0, locals := 80 }, [])
theorem cal_J3_checkIndex_8e157 : pm_Cal mi_J3_checkIndex_8e157 3 := ⟨pm_tab (i := 1071) (by decide +kernel) rfl, pm_tab (i := 30) (by decide +kernel) rfl, rfl, by decide +kernel, by decide +kernel, by decide +kernel⟩
abbrev mi_J0_checkIndex_df160 : pm_Mi := (19, yJ0_checkIndex_df160, cJ0_checkIndex_df160, 2, none, { frames := 2, cells := 0, slots := 0, locals := 102 }, [])
theorem cal_J0_checkIndex_df160 : pm_Cal mi_J0_checkIndex_df160 2 := ⟨pm_tab (i := 1068) (by decide +kernel) rfl, pm_tab (i := 21) (by decide +kernel) rfl, rfl, by decide +kernel, by decide +kernel, by decide +kernel⟩
abbrev mi_J5_charAt_5068e : pm_Mi := (12, yJ5_charAt_5068e, cJ5_charAt_5068e, 5, some .char, { frames := 3, cells := 0, slots := 0, locals := 123 }, [])
theorem cal_J5_charAt_5068e : pm_Cal mi_J5_charAt_5068e 1 := ⟨pm_tab (i := 1131) (by decide +kernel) rfl, pm_tab (i := 24) (by decide +kernel) rfl, rfl, by decide +kernel, by decide +kernel, by decide +kernel⟩
abbrev mi_J4_charAt_5068e : pm_Mi := (13, yJ4_charAt_5068e, cJ4_charAt_5068e, 2, some .char, { frames := 4, cells := 0, slots := 0, locals := 147 }, [])
theorem cal_J4_charAt_5068e : pm_Cal mi_J4_charAt_5068e 1 := ⟨pm_tab (i := 1128) (by decide +kernel) rfl, pm_tab (i := 25) (by decide +kernel) rfl, rfl, by decide +kernel, by decide +kernel, by decide +kernel⟩
abbrev mi_J5_length_8abf5 : pm_Mi := (12, yJ5_length_8abf5, cJ5_length_8abf5, 1, some .int, { frames := 1, cells := 0, slots := 0, locals := 80 }, [])
theorem cal_J5_length_8abf5 : pm_Cal mi_J5_length_8abf5 0 := ⟨pm_tab (i := 1116) (by decide +kernel) rfl, pm_tab (i := 24) (by decide +kernel) rfl, rfl, by decide +kernel, by decide +kernel, by decide +kernel⟩
abbrev mi_J4_length_8abf5 : pm_Mi := (13, yJ4_length_8abf5, cJ4_length_8abf5, 1, some .int, { frames := 2, cells := 0, slots := 0, locals := 100 }, [])
theorem cal_J4_length_8abf5 : pm_Cal mi_J4_length_8abf5 0 := ⟨pm_tab (i := 1113) (by decide +kernel) rfl, pm_tab (i := 25) (by decide +kernel) rfl, rfl, by decide +kernel, by decide +kernel, by decide +kernel⟩
abbrev mi_J5_init_d00df : pm_Mi := (12, yJ5_init_d00df, cJ5_init_d00df, 2, none, { frames := 2, cells := 1, slots := 16, locals := 80 }, [])
theorem cal_J5_init_d00df : pm_Cal mi_J5_init_d00df 1 := ⟨pm_tab (i := 958) (by decide +kernel) rfl, pm_tab (i := 24) (by decide +kernel) rfl, rfl, by decide +kernel, by decide +kernel, by decide +kernel⟩
abbrev mi_J4_init_da8c8 : pm_Mi := (13, yJ4_init_da8c8, cJ4_init_da8c8, 1, none, { frames := 3, cells := 1, slots := 16, locals := 101 }, [])
theorem cal_J4_init_da8c8 : pm_Cal mi_J4_init_da8c8 0 := ⟨pm_tab (i := 955) (by decide +kernel) rfl, pm_tab (i := 25) (by decide +kernel) rfl, rfl, by decide +kernel, by decide +kernel, by decide +kernel⟩
set_option maxHeartbeats 4000000 in
set_option maxRecDepth 100000 in
theorem c_J1_canEncode_fc78d (D : va_G) (tc : Nat → ClassId) {c : Nat} (hc : c < 256) : gm_CT D tc mi_J1_canEncode_fc78d [.int (nI c)] [] (fun r u => r = some (.int 1) ∧ u = []) := by
  refine gm_CT_of (lo := [some (.int (nI c))]) (by decide +kernel) rfl rfl (by intro v hv; simp at hv; rcases hv with rfl <;> first | rfl | assumption) (Nat.le_of_ble_eq_true rfl) rfl ?_
  refine gm_iload_n (j := 0) (by decide +kernel) rfl rfl ?_
  refine gm_sipush (z := 255) (v := 255) rfl (by decide +kernel) ?_
  refine gm_icmp_gt (off := 7) 11 (by decide +kernel) (by decide) (fun h9 => absurd h9 (nI_nlt (a := 255) (b := c) (by omega) (by decide))) (fun _ => ?_)
  show gm_V D tc mi_J1_canEncode_fc78d _ 0 0 7 [some (.int (nI c))] [] []
  refine gm_iconst (z := 1) (v := 1) rfl (by decide +kernel) ?_
  refine gm_goto (off := 4) (tgt := 12) (by decide +kernel) (by decide) ?_
  exact gm_iret (ty := .boolean) rfl rfl (by decide) (by decide) (by decide +kernel) ⟨rfl, rfl⟩
set_option maxHeartbeats 4000000 in
set_option maxRecDepth 100000 in
theorem c_J5_isLatin1_aae02 (D : va_G) (tc : Nat → ClassId) (b va n m : Nat) (a : Nat → Int32) : gm_CT D tc mi_J5_isLatin1_aae02 [.ref b] (sb_w tc b va n m a) (fun r u => r = some (.int 1) ∧ u = sb_w tc b va n m a) := by
  refine gm_CT_of (lo := [some (.ref b)]) (by decide +kernel) rfl rfl (by intro v hv; simp at hv; rcases hv with rfl <;> first | rfl | assumption) (Nat.le_of_ble_eq_true rfl) rfl ?_
  refine gm_compact (ix := 18) (pm_tab (i := 960) (by decide +kernel) rfl) (by decide +kernel) ?_
  refine gm_if_eq (off := 14) 17 (by decide +kernel) (by decide) (fun h9 => absurd h9 (by decide)) (fun _ => ?_)
  show gm_V D tc mi_J5_isLatin1_aae02 _ 0 0 6 [some (.ref b)] [] [(b, .inr (11, [.ref va, .int 0, .int 0, .int (nI n)])), (va, .inl (tc 5, m, .inl a))]
  refine gm_aload_n (j := 0) (by decide +kernel) rfl rfl ?_
  refine gm_get (ix := 22) (ci := 11) (N := 4) (C := RJ4) (T := TJ4) (v := .int 0) 0 1 sb_cf rfl rfl (by decide) (pm_tab (i := 970) (by decide +kernel) rfl) rfl (by decide +kernel) ?_
  refine gm_if_ne (off := 7) 17 (by decide +kernel) (by decide) (fun h9 => absurd rfl h9) (fun _ => ?_)
  show gm_V D tc mi_J5_isLatin1_aae02 _ 0 0 13 [some (.ref b)] [] [(b, .inr (11, [.ref va, .int 0, .int 0, .int (nI n)])), (va, .inl (tc 5, m, .inl a))]
  refine gm_iconst (z := 1) (v := 1) rfl (by decide +kernel) ?_
  refine gm_goto (off := 4) (tgt := 18) (by decide +kernel) (by decide) ?_
  exact gm_iret (ty := .boolean) rfl rfl (by decide) (by decide) (by decide +kernel) ⟨rfl, rfl⟩
set_option maxHeartbeats 4000000 in
set_option maxRecDepth 100000 in
theorem c_J5_length_8abf5 (D : va_G) (tc : Nat → ClassId) (b va n m : Nat) (a : Nat → Int32) : gm_CT D tc mi_J5_length_8abf5 [.ref b] (sb_w tc b va n m a) (fun r u => r = some (.int (nI n)) ∧ u = sb_w tc b va n m a) := by
  refine gm_CT_of (lo := [some (.ref b)]) (by decide +kernel) rfl rfl (by intro v hv; simp at hv; rcases hv with rfl <;> first | rfl | assumption) (Nat.le_of_ble_eq_true rfl) rfl ?_
  refine gm_aload_n (j := 0) (by decide +kernel) rfl rfl ?_
  refine gm_get (ix := 79) (ci := 11) (N := 4) (C := RJ4) (T := TJ4) (v := .int (nI n)) 0 3 sb_cf rfl rfl (by decide) (pm_tab (i := 971) (by decide +kernel) rfl) rfl (by decide +kernel) ?_
  exact gm_iret (ty := .int) rfl rfl (by decide) (by decide) (by decide +kernel) ⟨rfl, rfl⟩
set_option maxHeartbeats 4000000 in
set_option maxRecDepth 100000 in
theorem c_J4_length_8abf5 (D : va_G) (tc : Nat → ClassId) (b va n m : Nat) (a : Nat → Int32) : gm_CT D tc mi_J4_length_8abf5 [.ref b] (sb_w tc b va n m a) (fun r u => r = some (.int (nI n)) ∧ u = sb_w tc b va n m a) := by
  refine gm_CT_of (lo := [some (.ref b)]) (by decide +kernel) rfl rfl (by intro v hv; simp at hv; rcases hv with rfl <;> first | rfl | assumption) (Nat.le_of_ble_eq_true rfl) rfl ?_
  refine gm_aload_n (j := 0) (by decide +kernel) rfl rfl ?_
  refine gm_callSU (ix := 343) mi_J5_length_8abf5 (b := b) (n := 0) (As := []) (rest := []) (wc := [(b, .inr (11, [.ref va, .int 0, .int 0, .int (nI n)])), (va, .inl (tc 5, m, .inl a))]) (wr := []) (kc2 := 0) (ks2 := 0) (c_J5_length_8abf5 D tc b va n m a) (ci := 11) (q0 := 0) rfl rfl rfl cal_J5_length_8abf5 (pm_tab (i := 1115) (by decide +kernel) rfl) (pm_tab (i := 1658) (by decide +kernel) rfl) (pm_tab (i := 980) (by decide +kernel) rfl) (by decide +kernel) (pm_tab (i := 1114) (by decide +kernel) rfl) (by decide +kernel) (by decide +kernel) rfl rfl (Nat.le_of_ble_eq_true rfl) (by decide) (by decide) ?_
  rintro _ _ ⟨rfl, rfl⟩
  show gm_V D tc mi_J4_length_8abf5 _ 0 0 4 [some (.ref b)] [.int (nI n)] [(b, .inr (11, [.ref va, .int 0, .int 0, .int (nI n)])), (va, .inl (tc 5, m, .inl a))]
  exact gm_iret (ty := .int) rfl rfl (by decide) (by decide) (by decide +kernel) ⟨rfl, rfl⟩
set_option maxHeartbeats 4000000 in
set_option maxRecDepth 100000 in
theorem c_J3_checkIndex_8e157 (D : va_G) (tc : Nat → ClassId) {i n : Nat} {f9 : Value} (h9 : f9.category = 1) (hi : i < n) (hn : n < 2 ^ 31) : gm_CT D tc mi_J3_checkIndex_8e157 [.int (nI i), .int (nI n), f9] [] (fun r u => r = some (.int (nI i)) ∧ u = []) := by
  refine gm_CT_of (lo := [some (.int (nI i)), some (.int (nI n)), some (f9)]) (by decide +kernel) rfl rfl (by intro v hv; simp at hv; rcases hv with rfl | rfl | rfl <;> first | rfl | assumption) (Nat.le_of_ble_eq_true rfl) rfl ?_
  refine gm_iload_n (j := 0) (by decide +kernel) rfl rfl ?_
  refine gm_if_lt (off := 8) 9 (by decide +kernel) (by decide) (fun h9 => absurd h9 (nI_pos (by omega))) (fun _ => ?_)
  show gm_V D tc mi_J3_checkIndex_8e157 _ 0 0 4 [some (.int (nI i)), some (.int (nI n)), some (f9)] [] []
  refine gm_iload_n (j := 0) (by decide +kernel) rfl rfl ?_
  refine gm_iload_n (j := 1) (by decide +kernel) rfl rfl ?_
  refine gm_icmp_lt (off := 10) 16 (by decide +kernel) (by decide) (fun _ => ?_) (fun h9 => absurd (nI_lt hi hn) h9)
  show gm_V D tc mi_J3_checkIndex_8e157 _ 0 0 16 [some (.int (nI i)), some (.int (nI n)), some (f9)] [] []
  refine gm_iload_n (j := 0) (by decide +kernel) rfl rfl ?_
  exact gm_iret (ty := .int) rfl rfl (by decide) (by decide) (by decide +kernel) ⟨rfl, rfl⟩
set_option maxHeartbeats 4000000 in
set_option maxRecDepth 100000 in
theorem c_J0_checkIndex_df160 (D : va_G) (tc : Nat → ClassId) {i n : Nat} (hi : i < n) (hn : n < 2 ^ 31) : gm_CT D tc mi_J0_checkIndex_df160 [.int (nI i), .int (nI n)] [] (fun r u => r = none ∧ u = []) := by
  refine gm_CT_of (lo := [some (.int (nI i)), some (.int (nI n))]) (by decide +kernel) rfl rfl (by intro v hv; simp at hv; rcases hv with rfl | rfl <;> first | rfl | assumption) (Nat.le_of_ble_eq_true rfl) rfl ?_
  refine gm_iload_n (j := 0) (by decide +kernel) rfl rfl ?_
  refine gm_iload_n (j := 1) (by decide +kernel) rfl rfl ?_
  refine gm_former (ix := 1053) (pm_tab (i := 1046) (by decide +kernel) rfl) (by decide +kernel) (fun f9 h9 => ?_)
  refine gm_callS (ix := 1059) mi_J3_checkIndex_8e157 (n := 3) (As := [.int (nI i), .int (nI n), f9]) (rest := []) (wc := []) (wr := []) (kc2 := 0) (ks2 := 0) (c_J3_checkIndex_8e157 D tc h9 hi hn) rfl cal_J3_checkIndex_8e157 (pm_tab (i := 1070) (by decide +kernel) rfl) (pm_tab (i := 1069) (by decide +kernel) rfl) (by decide +kernel) (by decide +kernel) rfl rfl (Nat.le_of_ble_eq_true rfl) (by decide) (by decide) ?_
  rintro _ _ ⟨rfl, rfl⟩
  show gm_V D tc mi_J0_checkIndex_df160 _ 0 0 8 [some (.int (nI i)), some (.int (nI n))] [.int (nI i)] []
  refine gm_pop rfl (by decide +kernel) ?_
  exact gm_vret rfl (by decide) (by decide) (by decide +kernel) ⟨rfl, rfl⟩
set_option maxHeartbeats 4000000 in
set_option maxRecDepth 100000 in
theorem c_J5_charAt_5068e (D : va_G) (tc : Nat → ClassId) {L : List Nat} (b va m : Nat) {a : Nat → Int32} (hI : sb_I L m a) {i : Nat} (hi : i < L.length) : gm_CT D tc mi_J5_charAt_5068e [.ref b, .int (nI i)] (sb_w tc b va L.length m a) (fun r u => r = some (.int (nI (L.getD i 0))) ∧ u = sb_w tc b va L.length m a) := by
  refine gm_CT_of (lo := [some (.ref b), some (.int (nI i)), none, none, none]) (by decide +kernel) rfl rfl (by intro v hv; simp at hv; rcases hv with rfl | rfl <;> first | rfl | assumption) (Nat.le_of_ble_eq_true rfl) rfl ?_
  obtain ⟨h1, h2, h3, h4⟩ := id hI
  obtain ⟨h5, h6⟩ := h1 i hi
  have hm : m ≤ 34 := by omega
  have hc9 := (pk_charN (q := L.getD i 0) (by omega)).1
  refine gm_aload_n (j := 0) (by decide +kernel) rfl rfl ?_
  refine gm_get (ix := 22) (ci := 11) (N := 4) (C := RJ4) (T := TJ4) (v := .int 0) 0 1 sb_cf rfl rfl (by decide) (pm_tab (i := 970) (by decide +kernel) rfl) rfl (by decide +kernel) ?_
  refine gm_istore_n (j := 2) (a := 2) (by decide +kernel) rfl (by decide) rfl (Nat.le_of_ble_eq_true rfl) ?_
  show gm_V D tc mi_J5_charAt_5068e _ 0 0 5 [some (.ref b), some (.int (nI i)), some (.int 0), none, none] [] [(b, .inr (11, [.ref va, .int 0, .int 0, .int (nI L.length)])), (va, .inl (tc 5, m, .inl a))]
  refine gm_aload_n (j := 0) (by decide +kernel) rfl rfl ?_
  refine gm_get (ix := 15) (ci := 11) (N := 4) (C := RJ4) (T := TJ4) (v := .ref va) 0 0 sb_cf rfl rfl (by decide) (pm_tab (i := 969) (by decide +kernel) rfl) rfl (by decide +kernel) ?_
  refine gm_astore_n (j := 3) (a := 3) (by decide +kernel) rfl (by decide) rfl (Nat.le_of_ble_eq_true rfl) ?_
  show gm_V D tc mi_J5_charAt_5068e _ 0 0 10 [some (.ref b), some (.int (nI i)), some (.int 0), some (.ref va), none] [] [(b, .inr (11, [.ref va, .int 0, .int 0, .int (nI L.length)])), (va, .inl (tc 5, m, .inl a))]
  refine gm_aload_n (j := 0) (by decide +kernel) rfl rfl ?_
  refine gm_get (ix := 79) (ci := 11) (N := 4) (C := RJ4) (T := TJ4) (v := .int (nI L.length)) 0 3 sb_cf rfl rfl (by decide) (pm_tab (i := 971) (by decide +kernel) rfl) rfl (by decide +kernel) ?_
  refine gm_aload_n (j := 3) (by decide +kernel) rfl rfl ?_
  refine gm_alen 1 rfl (v := (nI m)) rfl (by decide +kernel) ?_
  refine gm_iload_n (j := 2) (by decide +kernel) rfl rfl ?_
  refine gm_ishr (by decide +kernel) ?_
  rw [sb_shr0]
  refine gm_min (ix := 138) (pm_tab (i := 1132) (by decide +kernel) rfl) (by decide) (by decide) (by decide +kernel) ?_
  rw [if_neg (nI_nlt (by omega) (by omega))]
  show gm_V D tc mi_J5_charAt_5068e _ 0 0 21 [some (.ref b), some (.int (nI i)), some (.int 0), some (.ref va), none] [.int (nI L.length)] [(b, .inr (11, [.ref va, .int 0, .int 0, .int (nI L.length)])), (va, .inl (tc 5, m, .inl a))]
  refine gm_istore (a := 4) (by decide +kernel) (by decide) rfl (Nat.le_of_ble_eq_true rfl) ?_
  show gm_V D tc mi_J5_charAt_5068e _ 0 0 23 [some (.ref b), some (.int (nI i)), some (.int 0), some (.ref va), some (.int (nI L.length))] [] [(b, .inr (11, [.ref va, .int 0, .int 0, .int (nI L.length)])), (va, .inl (tc 5, m, .inl a))]
  refine gm_iload_n (j := 1) (by decide +kernel) rfl rfl ?_
  refine gm_iload (a := 4) (by decide +kernel) rfl ?_
  refine gm_callS (ix := 144) mi_J0_checkIndex_df160 (n := 2) (As := [.int (nI i), .int (nI L.length)]) (rest := []) (wc := []) (wr := [(b, .inr (11, [.ref va, .int 0, .int 0, .int (nI L.length)])), (va, .inl (tc 5, m, .inl a))]) (kc2 := 0) (ks2 := 0) (c_J0_checkIndex_df160 D tc hi (by omega)) rfl cal_J0_checkIndex_df160 (pm_tab (i := 1067) (by decide +kernel) rfl) (pm_tab (i := 1133) (by decide +kernel) rfl) (by decide +kernel) (by decide +kernel) rfl rfl (Nat.le_of_ble_eq_true rfl) (by decide) (by decide) ?_
  rintro _ _ ⟨rfl, rfl⟩
  show gm_V D tc mi_J5_charAt_5068e _ 0 0 29 [some (.ref b), some (.int (nI i)), some (.int 0), some (.ref va), some (.int (nI L.length))] [] [(b, .inr (11, [.ref va, .int 0, .int 0, .int (nI L.length)])), (va, .inl (tc 5, m, .inl a))]
  refine gm_iload_n (j := 2) (by decide +kernel) rfl rfl ?_
  refine gm_if_ne (off := 12) 42 (by decide +kernel) (by decide) (fun h9 => absurd rfl h9) (fun _ => ?_)
  show gm_V D tc mi_J5_charAt_5068e _ 0 0 33 [some (.ref b), some (.int (nI i)), some (.int 0), some (.ref va), some (.int (nI L.length))] [] [(b, .inr (11, [.ref va, .int 0, .int 0, .int (nI L.length)])), (va, .inl (tc 5, m, .inl a))]
  refine gm_aload_n (j := 3) (by decide +kernel) rfl rfl ?_
  refine gm_iload_n (j := 1) (by decide +kernel) rfl rfl ?_
  refine gm_bald 1 rfl (vp_in_nI (by omega) (by omega)) (by decide +kernel) ?_
  rw [nI_clamp (by omega), h6]
  refine gm_sipush (z := 255) (v := 255) rfl (by decide +kernel) ?_
  refine gm_iand (by decide +kernel) ?_
  refine gm_i2c (by decide +kernel) ?_
  rw [(sb_byte _ h5).1, (sb_byte _ h5).2.1]
  exact gm_iret (ty := .char) rfl hc9 (by decide) (by decide) (by decide +kernel) ⟨rfl, rfl⟩
set_option maxHeartbeats 4000000 in
set_option maxRecDepth 100000 in
theorem c_J4_charAt_5068e (D : va_G) (tc : Nat → ClassId) {L : List Nat} (b va m : Nat) {a : Nat → Int32} (hI : sb_I L m a) {i : Nat} (hi : i < L.length) : gm_CT D tc mi_J4_charAt_5068e [.ref b, .int (nI i)] (sb_w tc b va L.length m a) (fun r u => r = some (.int (nI (L.getD i 0))) ∧ u = sb_w tc b va L.length m a) := by
  refine gm_CT_of (lo := [some (.ref b), some (.int (nI i))]) (by decide +kernel) rfl rfl (by intro v hv; simp at hv; rcases hv with rfl | rfl <;> first | rfl | assumption) (Nat.le_of_ble_eq_true rfl) rfl ?_
  obtain ⟨h1, h2, h3, h4⟩ := id hI
  obtain ⟨h5, h6⟩ := h1 i hi
  have hm : m ≤ 34 := by omega
  have hc9 := (pk_charN (q := L.getD i 0) (by omega)).1
  refine gm_aload_n (j := 0) (by decide +kernel) rfl rfl ?_
  refine gm_iload_n (j := 1) (by decide +kernel) rfl rfl ?_
  refine gm_callSU (ix := 329) mi_J5_charAt_5068e (b := b) (n := 1) (As := [.int (nI i)]) (rest := []) (wc := [(b, .inr (11, [.ref va, .int 0, .int 0, .int (nI L.length)])), (va, .inl (tc 5, m, .inl a))]) (wr := []) (kc2 := 0) (ks2 := 0) (c_J5_charAt_5068e D tc b va m hI hi) (ci := 11) (q0 := 0) rfl rfl rfl cal_J5_charAt_5068e (pm_tab (i := 1130) (by decide +kernel) rfl) (pm_tab (i := 1659) (by decide +kernel) rfl) (pm_tab (i := 980) (by decide +kernel) rfl) (by decide +kernel) (pm_tab (i := 1129) (by decide +kernel) rfl) (by decide +kernel) (by decide +kernel) rfl rfl (Nat.le_of_ble_eq_true rfl) (by decide) (by decide) ?_
  rintro _ _ ⟨rfl, rfl⟩
  show gm_V D tc mi_J4_charAt_5068e _ 0 0 5 [some (.ref b), some (.int (nI i))] [.int (nI (L.getD i 0))] [(b, .inr (11, [.ref va, .int 0, .int 0, .int (nI L.length)])), (va, .inl (tc 5, m, .inl a))]
  exact gm_iret (ty := .char) rfl hc9 (by decide) (by decide) (by decide +kernel) ⟨rfl, rfl⟩
set_option maxHeartbeats 4000000 in
set_option maxRecDepth 100000 in
theorem c_J8_newLength_cabcc (D : va_G) (tc : Nat → ClassId) {q : Nat} (h1 : 16 < q) (h2 : q ≤ 34) : gm_CT D tc mi_J8_newLength_cabcc [.int 16, .int (nI (q - 16)), .int 18] [] (fun r u => r = some (.int (nI 34)) ∧ u = []) := by
  refine gm_CT_of (lo := [some (.int 16), some (.int (nI (q - 16))), some (.int 18), none]) (by decide +kernel) rfl rfl (by intro v hv; simp at hv; rcases hv with rfl | rfl | rfl <;> first | rfl | assumption) (Nat.le_of_ble_eq_true rfl) rfl ?_
  refine gm_iload_n (j := 0) (by decide +kernel) rfl rfl ?_
  refine gm_iload_n (j := 1) (by decide +kernel) rfl rfl ?_
  refine gm_iload_n (j := 2) (by decide +kernel) rfl rfl ?_
  refine gm_max (ix := 194) (pm_tab (i := 999) (by decide +kernel) rfl) (by decide) (by decide) (by decide +kernel) ?_
  rw [show (if nI (q - 16) < (18 : Int32) then (18 : Int32) else nI (q - 16)) = 18 from by rcases Nat.lt_or_ge (q - 16) 18 with e | e; exact if_pos (nI_lt (b := 18) e (by decide)); rw [show q - 16 = 18 by omega]; rfl]
  refine gm_iadd (by decide +kernel) ?_
  show gm_V D tc mi_J8_newLength_cabcc _ 0 0 7 [some (.int 16), some (.int (nI (q - 16))), some (.int 18), none] [.int (nI 34)] []
  refine gm_istore_n (j := 3) (a := 3) (by decide +kernel) rfl (by decide) rfl (Nat.le_of_ble_eq_true rfl) ?_
  show gm_V D tc mi_J8_newLength_cabcc _ 0 0 8 [some (.int 16), some (.int (nI (q - 16))), some (.int 18), some (.int (nI 34))] [] []
  refine gm_iconst (z := 0) (v := 0) rfl (by decide +kernel) ?_
  refine gm_iload_n (j := 3) (by decide +kernel) rfl rfl ?_
  refine gm_icmp_ge (off := 11) 21 (by decide +kernel) (by decide) (fun h9 => absurd h9 (by decide)) (fun _ => ?_)
  show gm_V D tc mi_J8_newLength_cabcc _ 0 0 13 [some (.int 16), some (.int (nI (q - 16))), some (.int 18), some (.int (nI 34))] [] []
  refine gm_iload_n (j := 3) (by decide +kernel) rfl rfl ?_
  refine gm_ldc (ix := 200) (v := 2147483639) (pm_tab (i := 1002) (by decide +kernel) rfl) (by decide +kernel) ?_
  refine gm_icmp_gt (off := 5) 21 (by decide +kernel) (by decide) (fun h9 => absurd h9 (by decide)) (fun _ => ?_)
  show gm_V D tc mi_J8_newLength_cabcc _ 0 0 19 [some (.int 16), some (.int (nI (q - 16))), some (.int 18), some (.int (nI 34))] [] []
  refine gm_iload_n (j := 3) (by decide +kernel) rfl rfl ?_
  exact gm_iret (ty := .int) rfl rfl (by decide) (by decide) (by decide +kernel) ⟨rfl, rfl⟩
set_option maxHeartbeats 4000000 in
set_option maxRecDepth 100000 in
theorem c_J5_newCapacity_0f7a4 (D : va_G) (tc : Nat → ClassId) (b va n : Nat) (a : Nat → Int32) {q : Nat} (h1 : 16 < q) (h2 : q ≤ 34) : gm_CT D tc mi_J5_newCapacity_0f7a4 [.ref b, .int (nI q)] (sb_w tc b va n 16 a) (fun r u => r = some (.int (nI 34)) ∧ u = sb_w tc b va n 16 a) := by
  refine gm_CT_of (lo := [some (.ref b), some (.int (nI q)), none, none, none, none]) (by decide +kernel) rfl rfl (by intro v hv; simp at hv; rcases hv with rfl | rfl <;> first | rfl | assumption) (Nat.le_of_ble_eq_true rfl) rfl ?_
  refine gm_aload_n (j := 0) (by decide +kernel) rfl rfl ?_
  refine gm_get (ix := 15) (ci := 11) (N := 4) (C := RJ4) (T := TJ4) (v := .ref va) 0 0 sb_cf rfl rfl (by decide) (pm_tab (i := 969) (by decide +kernel) rfl) rfl (by decide +kernel) ?_
  refine gm_alen 1 rfl (v := 16) rfl (by decide +kernel) ?_
  refine gm_istore_n (j := 2) (a := 2) (by decide +kernel) rfl (by decide) rfl (Nat.le_of_ble_eq_true rfl) ?_
  show gm_V D tc mi_J5_newCapacity_0f7a4 _ 0 0 6 [some (.ref b), some (.int (nI q)), some (.int 16), none, none, none] [] [(b, .inr (11, [.ref va, .int 0, .int 0, .int (nI n)])), (va, .inl (tc 5, 16, .inl a))]
  refine gm_iload_n (j := 1) (by decide +kernel) rfl rfl ?_
  refine gm_aload_n (j := 0) (by decide +kernel) rfl rfl ?_
  refine gm_get (ix := 22) (ci := 11) (N := 4) (C := RJ4) (T := TJ4) (v := .int 0) 0 1 sb_cf rfl rfl (by decide) (pm_tab (i := 970) (by decide +kernel) rfl) rfl (by decide +kernel) ?_
  refine gm_ishl (by decide +kernel) ?_
  rw [sb_shl0]
  refine gm_istore_n (j := 3) (a := 3) (by decide +kernel) rfl (by decide) rfl (Nat.le_of_ble_eq_true rfl) ?_
  show gm_V D tc mi_J5_newCapacity_0f7a4 _ 0 0 13 [some (.ref b), some (.int (nI q)), some (.int 16), some (.int (nI q)), none, none] [] [(b, .inr (11, [.ref va, .int 0, .int 0, .int (nI n)])), (va, .inl (tc 5, 16, .inl a))]
  refine gm_iload_n (j := 3) (by decide +kernel) rfl rfl ?_
  refine gm_iload_n (j := 2) (by decide +kernel) rfl rfl ?_
  refine gm_isub (by decide +kernel) ?_
  rw [show nI q - (16 : Int32) = nI (q - 16) from pk_sub (b := 16) (by omega)]
  refine gm_istore (a := 4) (by decide +kernel) (by decide) rfl (Nat.le_of_ble_eq_true rfl) ?_
  show gm_V D tc mi_J5_newCapacity_0f7a4 _ 0 0 18 [some (.ref b), some (.int (nI q)), some (.int 16), some (.int (nI q)), some (.int (nI (q - 16))), none] [] [(b, .inr (11, [.ref va, .int 0, .int 0, .int (nI n)])), (va, .inl (tc 5, 16, .inl a))]
  refine gm_iload_n (j := 2) (by decide +kernel) rfl rfl ?_
  refine gm_iload (a := 4) (by decide +kernel) rfl ?_
  refine gm_iload_n (j := 2) (by decide +kernel) rfl rfl ?_
  refine gm_iconst (z := 2) (v := 2) rfl (by decide +kernel) ?_
  refine gm_aload_n (j := 0) (by decide +kernel) rfl rfl ?_
  refine gm_get (ix := 22) (ci := 11) (N := 4) (C := RJ4) (T := TJ4) (v := .int 0) 0 1 sb_cf rfl rfl (by decide) (pm_tab (i := 970) (by decide +kernel) rfl) rfl (by decide +kernel) ?_
  refine gm_ishl (by decide +kernel) ?_
  refine gm_iadd (by decide +kernel) ?_
  show gm_V D tc mi_J5_newCapacity_0f7a4 _ 0 0 29 [some (.ref b), some (.int (nI q)), some (.int 16), some (.int (nI q)), some (.int (nI (q - 16))), none] [.int 18, .int (nI (q - 16)), .int 16] [(b, .inr (11, [.ref va, .int 0, .int 0, .int (nI n)])), (va, .inl (tc 5, 16, .inl a))]
  refine gm_callS (ix := 114) mi_J8_newLength_cabcc (n := 3) (As := [.int 16, .int (nI (q - 16)), .int 18]) (rest := []) (wc := []) (wr := [(b, .inr (11, [.ref va, .int 0, .int 0, .int (nI n)])), (va, .inl (tc 5, 16, .inl a))]) (kc2 := 0) (ks2 := 0) (c_J8_newLength_cabcc D tc h1 h2) rfl cal_J8_newLength_cabcc (pm_tab (i := 997) (by decide +kernel) rfl) (pm_tab (i := 996) (by decide +kernel) rfl) (by decide +kernel) (by decide +kernel) rfl rfl (Nat.le_of_ble_eq_true rfl) (by decide) (by decide) ?_
  rintro _ _ ⟨rfl, rfl⟩
  show gm_V D tc mi_J5_newCapacity_0f7a4 _ 0 0 32 [some (.ref b), some (.int (nI q)), some (.int 16), some (.int (nI q)), some (.int (nI (q - 16))), none] [.int (nI 34)] [(b, .inr (11, [.ref va, .int 0, .int 0, .int (nI n)])), (va, .inl (tc 5, 16, .inl a))]
  refine gm_istore (a := 5) (by decide +kernel) (by decide) rfl (Nat.le_of_ble_eq_true rfl) ?_
  show gm_V D tc mi_J5_newCapacity_0f7a4 _ 0 0 34 [some (.ref b), some (.int (nI q)), some (.int 16), some (.int (nI q)), some (.int (nI (q - 16))), some (.int (nI 34))] [] [(b, .inr (11, [.ref va, .int 0, .int 0, .int (nI n)])), (va, .inl (tc 5, 16, .inl a))]
  refine gm_iload (a := 5) (by decide +kernel) rfl ?_
  refine gm_ldc (ix := 39) (v := 2147483647) (pm_tab (i := 1006) (by decide +kernel) rfl) (by decide +kernel) ?_
  refine gm_icmp_ne (off := 13) 51 (by decide +kernel) (by decide) (fun _ => ?_) (fun h9 => absurd (show ¬ nI 34 = 2147483647 from by decide) (fun g => g h9))
  show gm_V D tc mi_J5_newCapacity_0f7a4 _ 0 0 51 [some (.ref b), some (.int (nI q)), some (.int 16), some (.int (nI q)), some (.int (nI (q - 16))), some (.int (nI 34))] [] [(b, .inr (11, [.ref va, .int 0, .int 0, .int (nI n)])), (va, .inl (tc 5, 16, .inl a))]
  refine gm_iload (a := 5) (by decide +kernel) rfl ?_
  refine gm_aload_n (j := 0) (by decide +kernel) rfl rfl ?_
  refine gm_get (ix := 22) (ci := 11) (N := 4) (C := RJ4) (T := TJ4) (v := .int 0) 0 1 sb_cf rfl rfl (by decide) (pm_tab (i := 970) (by decide +kernel) rfl) rfl (by decide +kernel) ?_
  refine gm_ishr (by decide +kernel) ?_
  rw [sb_shr0]
  exact gm_iret (ty := .int) rfl rfl (by decide) (by decide) (by decide +kernel) ⟨rfl, rfl⟩
set_option maxHeartbeats 4000000 in
set_option maxRecDepth 100000 in
theorem c_J7_copyOf_9075b (D : va_G) (tc : Nat → ClassId) (va : Nat) {a : Nat → Int32} (hf : sb_Fit a) : gm_CT D tc mi_J7_copyOf_9075b [.ref va, .int (nI 34)] [(va, .inl (tc 5, 16, .inl a))] (fun r u => ∃ v2 a2, r = some (.ref v2) ∧ u = [(v2, .inl (tc 5, 34, .inl a2))] ∧ sb_Fit a2 ∧ ∀ j, j < 16 → a2 j = a j) := by
  refine gm_CT_of (lo := [some (.ref va), some (.int (nI 34)), none]) (by decide +kernel) rfl rfl (by intro v hv; simp at hv; rcases hv with rfl | rfl <;> first | rfl | assumption) (Nat.le_of_ble_eq_true rfl) rfl ?_
  refine gm_iload_n (j := 1) (by decide +kernel) rfl rfl ?_
  refine gm_aload_n (j := 0) (by decide +kernel) rfl rfl ?_
  refine gm_alen 0 rfl (v := 16) rfl (by decide +kernel) ?_
  refine gm_icmp_ne (off := 11) 14 (by decide +kernel) (by decide) (fun _ => ?_) (fun h9 => absurd (show ¬ nI 34 = 16 from by decide) (fun g => g h9))
  show gm_V D tc mi_J7_copyOf_9075b _ 0 0 14 [some (.ref va), some (.int (nI 34)), none] [] [(va, .inl (tc 5, 16, .inl a))]
  refine gm_iload_n (j := 1) (by decide +kernel) rfl rfl ?_
  refine gm_newa_byte (N := 34) (by decide) (by decide) (by decide) (by decide) (by decide) (by decide +kernel) (fun v2 => ?_)
  show gm_V D tc mi_J7_copyOf_9075b _ 1 34 17 [some (.ref va), some (.int (nI 34)), none] [.ref v2] [(va, .inl (tc 5, 16, .inl a)), (v2, .inl (tc 5, 34, .inl (fun _ => 0)))]
  refine gm_astore_n (j := 2) (a := 2) (by decide +kernel) rfl (by decide) rfl (Nat.le_of_ble_eq_true rfl) ?_
  show gm_V D tc mi_J7_copyOf_9075b _ 1 34 18 [some (.ref va), some (.int (nI 34)), some (.ref v2)] [] [(va, .inl (tc 5, 16, .inl a)), (v2, .inl (tc 5, 34, .inl (fun _ => 0)))]
  refine gm_aload_n (j := 0) (by decide +kernel) rfl rfl ?_
  refine gm_iconst (z := 0) (v := 0) rfl (by decide +kernel) ?_
  refine gm_aload_n (j := 2) (by decide +kernel) rfl rfl ?_
  refine gm_iconst (z := 0) (v := 0) rfl (by decide +kernel) ?_
  refine gm_aload_n (j := 0) (by decide +kernel) rfl rfl ?_
  refine gm_alen 0 rfl (v := 16) rfl (by decide +kernel) ?_
  refine gm_iload_n (j := 1) (by decide +kernel) rfl rfl ?_
  refine gm_min (ix := 304) (pm_tab (i := 1017) (by decide +kernel) rfl) (by decide) (Nat.le_of_ble_eq_true rfl) (by decide +kernel) ?_
  rw [show (if nI 34 < (16 : Int32) then nI 34 else (16 : Int32)) = 16 from by decide]
  show gm_V D tc mi_J7_copyOf_9075b _ 1 34 28 [some (.ref va), some (.int (nI 34)), some (.ref v2)] [.int 16, .int 0, .ref v2, .int 0, .ref va] [(va, .inl (tc 5, 16, .inl a)), (v2, .inl (tc 5, 34, .inl (fun _ => 0)))]
  refine gm_bcopy (ix := 150) (n0 := 16) (n1 := 34) (f := a) (g := fun _ => 0) 0 1 (pm_tab (i := 1018) (by decide +kernel) rfl) rfl rfl (by decide) (by decide) (by decide) (by decide) (by decide) hf (by decide) (by decide) (by decide +kernel) ?_
  rw [show (0 : Int32).toNatClampNeg = 0 from by decide, show (16 : Int32).toNatClampNeg = 16 from by decide]
  show gm_V D tc mi_J7_copyOf_9075b _ 1 34 31 [some (.ref va), some (.int (nI 34)), some (.ref v2)] [] [(va, .inl (tc 5, 16, .inl a)), (v2, .inl (tc 5, 34, .inl (va_cpy a (fun _ => 0) 0 0 16)))]
  refine gm_aload_n (j := 2) (by decide +kernel) rfl rfl ?_
  refine gm_V.sub (ws' := [(v2, .inl (tc 5, 34, .inl (va_cpy a (fun _ => 0) 0 0 16)))]) [1] (by decide) rfl ?_
  exact gm_aret rfl (Or.inr ⟨_, rfl⟩) (by decide) (by decide) (by decide +kernel) ⟨v2, _, rfl, rfl, sb_fitC hf sb_fit0, fun j hj => sb_cpy0 hj⟩
set_option maxHeartbeats 4000000 in
set_option maxRecDepth 100000 in
theorem c_J5_ensureCapacityInternal_d00df (D : va_G) (tc : Nat → ClassId) {L : List Nat} (b va m : Nat) {a : Nat → Int32} (hI : sb_I L m a) {q : Nat} (h2 : q ≤ 34) : gm_CT D tc mi_J5_ensureCapacityInternal_d00df [.ref b, .int (nI q)] (sb_w tc b va L.length m a) (fun r u => r = none ∧ ∃ v2 m2 a2, u = sb_w tc b v2 L.length m2 a2 ∧ sb_I L m2 a2 ∧ q ≤ m2) := by
  refine gm_CT_of (lo := [some (.ref b), some (.int (nI q)), none]) (by decide +kernel) rfl rfl (by intro v hv; simp at hv; rcases hv with rfl | rfl <;> first | rfl | assumption) (Nat.le_of_ble_eq_true rfl) rfl ?_
  obtain ⟨i1, i2, i3, i4⟩ := id hI
  have hm : m ≤ 34 := by omega
  refine gm_aload_n (j := 0) (by decide +kernel) rfl rfl ?_
  refine gm_get (ix := 15) (ci := 11) (N := 4) (C := RJ4) (T := TJ4) (v := .ref va) 0 0 sb_cf rfl rfl (by decide) (pm_tab (i := 969) (by decide +kernel) rfl) rfl (by decide +kernel) ?_
  refine gm_alen 1 rfl (v := (nI m)) rfl (by decide +kernel) ?_
  refine gm_aload_n (j := 0) (by decide +kernel) rfl rfl ?_
  refine gm_get (ix := 22) (ci := 11) (N := 4) (C := RJ4) (T := TJ4) (v := .int 0) 0 1 sb_cf rfl rfl (by decide) (pm_tab (i := 970) (by decide +kernel) rfl) rfl (by decide +kernel) ?_
  refine gm_ishr (by decide +kernel) ?_
  rw [sb_shr0]
  refine gm_istore_n (j := 2) (a := 2) (by decide +kernel) rfl (by decide) rfl (Nat.le_of_ble_eq_true rfl) ?_
  show gm_V D tc mi_J5_ensureCapacityInternal_d00df _ 0 0 11 [some (.ref b), some (.int (nI q)), some (.int (nI m))] [] [(b, .inr (11, [.ref va, .int 0, .int 0, .int (nI L.length)])), (va, .inl (tc 5, m, .inl a))]
  refine gm_iload_n (j := 1) (by decide +kernel) rfl rfl ?_
  refine gm_iload_n (j := 2) (by decide +kernel) rfl rfl ?_
  refine gm_isub (by decide +kernel) ?_
  by_cases h : q ≤ m
  · refine gm_if_le (off := 24) 38 (by decide +kernel) (by decide) (fun _ => ?_) (fun h9 => absurd (show nI q - nI m ≤ 0 from by rw [Int32.le_iff_toInt_le, pk_sub_toInt (by omega) (by omega), Int32.toInt_zero]; omega) h9)
    exact gm_vret rfl (by decide) (by decide) (by decide +kernel) ⟨rfl, va, m, a, rfl, hI, h⟩
  · obtain rfl : m = 16 := by omega
    rw [pk_sub (by omega)]
    refine gm_if_le (off := 24) 38 (by decide +kernel) (by decide) (fun h9 => absurd h9 (nI_nle (by omega) (by omega))) (fun _ => ?_)
    show gm_V D tc mi_J5_ensureCapacityInternal_d00df _ 0 0 17 [some (.ref b), some (.int (nI q)), some (.int (nI 16))] [] [(b, .inr (11, [.ref va, .int 0, .int 0, .int (nI L.length)])), (va, .inl (tc 5, 16, .inl a))]
    refine gm_aload_n (j := 0) (by decide +kernel) rfl rfl ?_
    refine gm_aload_n (j := 0) (by decide +kernel) rfl rfl ?_
    refine gm_get (ix := 15) (ci := 11) (N := 4) (C := RJ4) (T := TJ4) (v := .ref va) 0 0 sb_cf rfl rfl (by decide) (pm_tab (i := 969) (by decide +kernel) rfl) rfl (by decide +kernel) ?_
    refine gm_aload_n (j := 0) (by decide +kernel) rfl rfl ?_
    refine gm_iload_n (j := 1) (by decide +kernel) rfl rfl ?_
    refine gm_callU (ix := 104) mi_J5_newCapacity_0f7a4 (b := b) (n := 1) (As := [.int (nI q)]) (rest := [.ref va, .ref b]) (wc := [(b, .inr (11, [.ref va, .int 0, .int 0, .int (nI L.length)])), (va, .inl (tc 5, 16, .inl a))]) (wr := []) (kc2 := 0) (ks2 := 0) (c_J5_newCapacity_0f7a4 D tc b va L.length a (by omega) h2) (ci := 11) (q0 := 0) rfl rfl rfl cal_J5_newCapacity_0f7a4 (pm_tab (i := 994) (by decide +kernel) rfl) (pm_tab (i := 1655) (by decide +kernel) rfl) (pm_sb_in (by unfold pm_sbs; simp) rfl) (pm_tab (i := 992) (by decide +kernel) rfl) (by decide +kernel) (by decide +kernel) rfl rfl (Nat.le_of_ble_eq_true rfl) (by decide) (by decide) ?_
    rintro _ _ ⟨rfl, rfl⟩
    show gm_V D tc mi_J5_ensureCapacityInternal_d00df _ 0 0 27 [some (.ref b), some (.int (nI q)), some (.int (nI 16))] [.int (nI 34), .ref va, .ref b] [(b, .inr (11, [.ref va, .int 0, .int 0, .int (nI L.length)])), (va, .inl (tc 5, 16, .inl a))]
    refine gm_aload_n (j := 0) (by decide +kernel) rfl rfl ?_
    refine gm_get (ix := 22) (ci := 11) (N := 4) (C := RJ4) (T := TJ4) (v := .int 0) 0 1 sb_cf rfl rfl (by decide) (pm_tab (i := 970) (by decide +kernel) rfl) rfl (by decide +kernel) ?_
    refine gm_ishl (by decide +kernel) ?_
    rw [sb_shl0]
    refine gm_V.sub (ws' := [(va, .inl (tc 5, 16, .inl a)), (b, .inr (11, [.ref va, .int 0, .int 0, .int (nI L.length)]))]) [1, 0] (by decide) rfl ?_
    refine gm_callS (ix := 108) mi_J7_copyOf_9075b (n := 2) (As := [.ref va, .int (nI 34)]) (rest := [.ref b]) (wc := [(va, .inl (tc 5, 16, .inl a))]) (wr := [(b, .inr (11, [.ref va, .int 0, .int 0, .int (nI L.length)]))]) (kc2 := 1) (ks2 := 34) (c_J7_copyOf_9075b D tc va i2) rfl cal_J7_copyOf_9075b (pm_tab (i := 1008) (by decide +kernel) rfl) (pm_tab (i := 1007) (by decide +kernel) rfl) (by decide +kernel) (by decide +kernel) rfl rfl (Nat.le_of_ble_eq_true rfl) (by decide) (by decide) ?_
    rintro _ _ ⟨v2, a2, rfl, rfl, e1, e2⟩
    show gm_V D tc mi_J5_ensureCapacityInternal_d00df _ 1 34 35 [some (.ref b), some (.int (nI q)), some (.int (nI 16))] [.ref v2, .ref b] [(v2, .inl (tc 5, 34, .inl a2)), (b, .inr (11, [.ref va, .int 0, .int 0, .int (nI L.length)]))]
    refine gm_put (ix := 15) (ci := 11) (N := 4) (C := RJ4) (T := TJ4) (ty := .array .byte) 1 0 sb_cf rfl rfl (by decide) (pm_tab (i := 969) (by decide +kernel) rfl) rfl (by decide +kernel) rfl rfl (Nat.le_of_ble_eq_true rfl) (by decide +kernel) ?_
    refine gm_V.sub (ws' := sb_w tc b v2 L.length 34 a2) [1, 0] (by decide) rfl ?_
    exact gm_vret rfl (by decide) (by decide) (by decide +kernel) ⟨rfl, v2, 34, a2, rfl, ⟨fun i hi => ⟨(i1 i hi).1, (e2 i (by omega)).trans (i1 i hi).2⟩, e1, by omega, Or.inr rfl⟩, h2⟩
