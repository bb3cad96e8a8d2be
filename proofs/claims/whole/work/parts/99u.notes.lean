/-! the class's notes: their length, their signs; both sides together -/
abbrev mi_X9_noteLength : pm_Mi := (9, yX9_noteLength, cX9_noteLength, 2, some .int, { frames := 9, cells := 19, slots := 570, locals := 238 }, [])
theorem cal_X9_noteLength : pm_CalV mi_X9_noteLength 1 := ⟨⟨(pm_tab (i := 946) (by decide +kernel) rfl), (pm_tab (i := 1) (by decide +kernel) rfl), rfl, by decide +kernel, by decide +kernel, by decide +kernel⟩, (pm_tab (i := 944) (by decide +kernel) rfl), (pm_tab (i := 945) (by decide +kernel) rfl)⟩
abbrev mi_X9_note : pm_Mi := (9, yX9_note, cX9_note, 4, some .char, { frames := 9, cells := 20, slots := 576, locals := 238 }, [])
theorem cal_X9_note : pm_CalV mi_X9_note 2 := ⟨⟨(pm_tab (i := 1123) (by decide +kernel) rfl), (pm_tab (i := 1) (by decide +kernel) rfl), rfl, by decide +kernel, by decide +kernel, by decide +kernel⟩, (pm_tab (i := 1121) (by decide +kernel) rfl), (pm_tab (i := 1122) (by decide +kernel) rfl)⟩
theorem lr_note_len {p wt re st ho rs si en tr : Nat} (h1 : re ≤ 1) (h2 : st ≤ 2) : 1 ≤ (lr_note p wt re st ho rs si en tr).length ∧ (lr_note p wt re st ho rs si en tr).length ≤ 34 := by
  have d1 := lr_dg_len p; have d2 := lr_dg_len wt; have d3 := lr_dg_len tr; have d4 := lr_nend_len re st ho rs si en
  rw [lr_note_eq h1 h2]
  simp only [List.length_append, List.length_cons, List.length_nil]
  have e1 : (if re = 1 then [114] else ([] : List Nat)).length ≤ 1 := by split <;> simp
  have e2 : (if 0 < tr then [120] ++ lr_dg tr else ([] : List Nat)).length ≤ 4 := by split <;> simp only [List.length_append, List.length_cons, List.length_nil] <;> omega
  omega
theorem lr_be_in {x : Int32} {n : Nat} (h0 : 1 ≤ n) (hn : n < 2 ^ 30) (h : lr_be x (nI n) = false) : lr_in x 0 (nI n - 1) = false := by
  obtain ⟨k, rfl⟩ : ∃ k, n = k + 1 := ⟨n - 1, by omega⟩
  rw [nI_pred]
  unfold lr_in
  unfold lr_be at h
  by_cases hx : x < 0
  · simp [hx]
  · obtain ⟨j, hj, rfl⟩ := nI_of hx
    have h2 : nI (k + 1) ≤ nI j := by simpa [hx] using h
    have h3 : k + 1 ≤ j := (nI_leI (by omega) hj).mp h2
    have h4 : nI k < nI j := nI_lt (by omega) hj
    simp [h4]
theorem sb_Ln_of {f : Nat → Nat → Int32} {g : Nat → Int32} {h p wt re st ho rs si en tr : Nat} (hR : lr_Rel f 1 g) (hh : h < lr_n g 289) (hL : lr_Ln g h p wt re st ho rs si en tr) : sb_Ln f h p wt re st ho rs si en tr := by
  obtain ⟨e1, e2, e3, e4, e5, e6, e7, e8, e9, b⟩ := hL
  exact ⟨(lr_rlpe hR (i := h) hh).trans e1, (lr_rlwe hR (i := h) hh).trans e2, (lr_rlre hR (i := h) hh).trans e3, (lr_rlst hR (i := h) hh).trans e4, fun q => (lr_rlho hR (i := h) hh).trans (e5 q), fun q => (lr_rlrs hR (i := h) hh).trans (e6 q), fun q q2 => (lr_rlsi hR (i := h) hh).trans (e7 q q2), fun q => (lr_rlen hR (i := h) hh).trans (e8 q), (lr_rltr hR (i := h) hh).trans e9, b⟩
set_option maxHeartbeats 4000000 in
set_option maxRecDepth 100000 in
theorem c_X9_noteLength {g : Nat → Int32} {h p wt re st ho rs si en tr : Nat} (μ : pm_Mm) (hR : lr_Rel μ.1 1 g) (hG : lr_G g) (hh : h < lr_n g 289) (hL : lr_Ln g h p wt re st ho rs si en tr) : pm_CT mi_X9_noteLength [.ref 0, .int (nI h)] μ (fun v μ2 => v = some (.int (nI (lr_note p wt re st ho rs si en tr).length)) ∧ μ2 = μ) pm_NX := by
  refine pm_CT_of (lo := [some (.ref 0), some (.int (nI h))]) (by decide +kernel) rfl rfl (by intro v hv; simp at hv; rcases hv with rfl | rfl <;> rfl) (Nat.le_of_ble_eq_true rfl) rfl ?_
  have hm1 := lr_mh hG; have hm2 := lr_mw hG; have hm3 := lr_mp hG; have hm4 := lr_mr hG; have hm5 := lr_ma hG; have hm6 := lr_ml hG
  refine pm_s_aload_n (j := 0) (by decide +kernel) rfl rfl ?_
  refine pm_s_iload_n (j := 1) (by decide +kernel) rfl rfl ?_
  refine pm_callV2 mi_X9_requireLetter (ix := 282) (b := 0) (ci := 9) (kc2 := 1) (ks2 := 6) (As := [.int (nI h)]) (rest := []) (c_X9_requireLetter (nI h) μ hR hG (lr_be_1 hh (by omega))) cal_X9_requireLetter (pm_tab (i := 930) (by decide +kernel) rfl) (by decide +kernel) rfl (by decide +kernel) rfl rfl rfl rfl (Nat.le_of_ble_eq_true rfl) (by decide) (by decide) (fun _ _ h9 => h9.elim) ?_
  rintro _ _ ⟨rfl, h9⟩; rw [h9]; clear h9
  show pm_V mi_X9_noteLength _ 1 6 5 [some (.ref 0), some (.int (nI h))] [] μ
  refine pm_s_aload_n (j := 0) (by decide +kernel) rfl rfl ?_
  refine pm_s_getr (ix := 10) (ci := 9) (fk := 0) (r := 0) (r1 := 1) (by decide +kernel) rfl rfl (by decide +kernel) ?_
  refine pm_s_getr (ix := 235) (ci := 5) (fk := 5) (r := 1) (r1 := 26) (by decide +kernel) rfl rfl (by decide +kernel) ?_
  refine pm_s_iload_n (j := 1) (by decide +kernel) rfl rfl ?_
  refine sb_callB mi_X4_writeNote (ix := 290) (r := 26) (ci := 4) (kc2 := 19) (ks2 := 570) (As := [.int (nI h)]) (rest := []) (c_X4_writeNote μ (show h < 30 by omega) (sb_Ln_of hR hh hL)) cal_X4_writeNote (pm_tab (i := 947) (by decide +kernel) rfl) (by decide +kernel) (by decide +kernel) rfl rfl rfl rfl (Nat.le_of_ble_eq_true rfl) (by decide) (by decide) (by intro v hv e; subst e; simp at hv) (by intro v hv; cases hv) (by rintro _ _ ⟨rfl, -⟩ e; cases e) ?_
  rintro b c5 _ ⟨va, m, a, rfl, hI⟩
  refine sb_call mi_J4_length_8abf5 (ix := 294) (n := 0) (kc2 := 19) (ks2 := 570) (As := []) (rest := []) (wr := μ.2.2.2) (P2 := fun r u => r = some (.int (nI (lr_note p wt re st ho rs si en tr).length)) ∧ u = sb_w (fun _ => c5) b va (lr_note p wt re st ho rs si en tr).length m a) (some (.int (nI (lr_note p wt re st ho rs si en tr).length))) (fun D tc h5 => by subst h5; exact c_J4_length_8abf5 D tc b va _ m a) rfl cal_J4_length_8abf5 (pm_tab (i := 1111) (by decide +kernel) rfl) (pm_tab (i := 1112) (by decide +kernel) rfl) (pm_tab (i := 1110) (by decide +kernel) rfl) (by decide +kernel) (by decide +kernel) rfl (fun _ => rfl) rfl rfl (Nat.le_of_ble_eq_true rfl) (by decide) (by decide) (fun v w1 h ad e => h.1) ?_
  rintro _ _ ⟨-, rfl⟩
  refine sb_drop (E := sb_w (fun _ => c5) b va _ m a) (E' := μ.2.2.2) ?_ rfl
  exact pm_iret (ty := .int) rfl rfl (by decide) (by decide) (by decide +kernel) ⟨rfl, rfl⟩
set_option maxHeartbeats 4000000 in
set_option maxRecDepth 100000 in
theorem c_X9_noteLength_no {g : Nat → Int32} {x : Int32} (μ : pm_Mm) (hR : lr_Rel μ.1 1 g) (hG : lr_G g) (hb : lr_be x (nI (lr_n g 289)) = false) : pm_CT mi_X9_noteLength [.ref 0, .int x] μ (fun _ _ => False) (fun E μ2 => E = "java/lang/IndexOutOfBoundsException" ∧ μ2 = μ) := by
  refine pm_CT_of (lo := [some (.ref 0), some (.int x)]) (by decide +kernel) rfl rfl (by intro v hv; simp at hv; rcases hv with rfl | rfl <;> rfl) (Nat.le_of_ble_eq_true rfl) rfl ?_
  have hm1 := lr_mh hG; have hm2 := lr_mw hG; have hm3 := lr_mp hG; have hm4 := lr_mr hG; have hm5 := lr_ma hG; have hm6 := lr_ml hG
  refine pm_s_aload_n (j := 0) (by decide +kernel) rfl rfl ?_
  refine pm_s_iload_n (j := 1) (by decide +kernel) rfl rfl ?_
  refine pm_callV2 mi_X9_requireLetter (ix := 282) (b := 0) (ci := 9) (kc2 := 1) (ks2 := 6) (As := [.int x]) (rest := []) (c_X9_requireLetter_no x μ hR hG hb) cal_X9_requireLetter (pm_tab (i := 930) (by decide +kernel) rfl) (by decide +kernel) rfl (by decide +kernel) rfl rfl rfl rfl (Nat.le_of_ble_eq_true rfl) (by decide) (by decide) (fun E μ9 h9 => h9) ?_
  rintro _ _ h9; exact h9.elim
set_option maxHeartbeats 4000000 in
set_option maxRecDepth 100000 in
theorem c_X9_note_no1 {g : Nat → Int32} {x : Int32} (y : Int32) (μ : pm_Mm) (hR : lr_Rel μ.1 1 g) (hG : lr_G g) (hb : lr_be x (nI (lr_n g 289)) = false) : pm_CT mi_X9_note [.ref 0, .int x, .int y] μ (fun _ _ => False) (fun E μ2 => E = "java/lang/IndexOutOfBoundsException" ∧ μ2 = μ) := by
  refine pm_CT_of (lo := [some (.ref 0), some (.int x), some (.int y), none]) (by decide +kernel) rfl rfl (by intro v hv; simp at hv; rcases hv with rfl | rfl | rfl <;> rfl) (Nat.le_of_ble_eq_true rfl) rfl ?_
  have hm1 := lr_mh hG; have hm2 := lr_mw hG; have hm3 := lr_mp hG; have hm4 := lr_mr hG; have hm5 := lr_ma hG; have hm6 := lr_ml hG
  refine pm_s_aload_n (j := 0) (by decide +kernel) rfl rfl ?_
  refine pm_s_iload_n (j := 1) (by decide +kernel) rfl rfl ?_
  refine pm_callV2 mi_X9_requireLetter (ix := 282) (b := 0) (ci := 9) (kc2 := 1) (ks2 := 6) (As := [.int x]) (rest := []) (c_X9_requireLetter_no x μ hR hG hb) cal_X9_requireLetter (pm_tab (i := 930) (by decide +kernel) rfl) (by decide +kernel) rfl (by decide +kernel) rfl rfl rfl rfl (Nat.le_of_ble_eq_true rfl) (by decide) (by decide) (fun E μ9 h9 => h9) ?_
  rintro _ _ h9; exact h9.elim
set_option maxHeartbeats 4000000 in
set_option maxRecDepth 100000 in
theorem c_X9_note_no2 {g : Nat → Int32} {h p wt re st ho rs si en tr : Nat} {y : Int32} (μ : pm_Mm) (hR : lr_Rel μ.1 1 g) (hG : lr_G g) (hh : h < lr_n g 289) (hL : lr_Ln g h p wt re st ho rs si en tr) (hy : lr_be y (nI (lr_note p wt re st ho rs si en tr).length) = false) : pm_CT mi_X9_note [.ref 0, .int (nI h), .int y] μ (fun _ _ => False) (fun E μ2 => E = "java/util/NoSuchElementException" ∧ μ2 = μ) := by
  refine pm_CT_of (lo := [some (.ref 0), some (.int (nI h)), some (.int y), none]) (by decide +kernel) rfl rfl (by intro v hv; simp at hv; rcases hv with rfl | rfl | rfl <;> rfl) (Nat.le_of_ble_eq_true rfl) rfl ?_
  have hm1 := lr_mh hG; have hm2 := lr_mw hG; have hm3 := lr_mp hG; have hm4 := lr_mr hG; have hm5 := lr_ma hG; have hm6 := lr_ml hG
  refine pm_s_aload_n (j := 0) (by decide +kernel) rfl rfl ?_
  refine pm_s_iload_n (j := 1) (by decide +kernel) rfl rfl ?_
  refine pm_callV2 mi_X9_requireLetter (ix := 282) (b := 0) (ci := 9) (kc2 := 1) (ks2 := 6) (As := [.int (nI h)]) (rest := []) (c_X9_requireLetter (nI h) μ hR hG (lr_be_1 hh (by omega))) cal_X9_requireLetter (pm_tab (i := 930) (by decide +kernel) rfl) (by decide +kernel) rfl (by decide +kernel) rfl rfl rfl rfl (Nat.le_of_ble_eq_true rfl) (by decide) (by decide) (fun _ _ h9 => h9.elim) ?_
  rintro _ _ ⟨rfl, h9⟩; rw [h9]; clear h9
  show pm_V mi_X9_note _ 1 6 5 [some (.ref 0), some (.int (nI h)), some (.int y), none] [] μ
  refine pm_s_aload_n (j := 0) (by decide +kernel) rfl rfl ?_
  refine pm_s_getr (ix := 10) (ci := 9) (fk := 0) (r := 0) (r1 := 1) (by decide +kernel) rfl rfl (by decide +kernel) ?_
  refine pm_s_getr (ix := 235) (ci := 5) (fk := 5) (r := 1) (r1 := 26) (by decide +kernel) rfl rfl (by decide +kernel) ?_
  refine pm_s_iload_n (j := 1) (by decide +kernel) rfl rfl ?_
  refine sb_callB mi_X4_writeNote (ix := 290) (r := 26) (ci := 4) (kc2 := 19) (ks2 := 570) (As := [.int (nI h)]) (rest := []) (c_X4_writeNote μ (show h < 30 by omega) (sb_Ln_of hR hh hL)) cal_X4_writeNote (pm_tab (i := 947) (by decide +kernel) rfl) (by decide +kernel) (by decide +kernel) rfl rfl rfl rfl (Nat.le_of_ble_eq_true rfl) (by decide) (by decide) (by intro v hv e; subst e; simp at hv) (by intro v hv; cases hv) (fun _ _ h9 => h9.elim) ?_
  rintro b c5 _ ⟨va, m, a, rfl, hI⟩
  refine pm_s_astore_n (j := 3) (a := 3) (by decide +kernel) rfl (by decide) rfl (Nat.le_of_ble_eq_true rfl) ?_
  show pm_V mi_X9_note (_, _, sb_Tie b c5) 19 570 17 [some (.ref 0), some (.int (nI h)), some (.int y), some (.ref 2000)] [] (sb_m μ (sb_w (fun _ => c5) b va _ m a ++ μ.2.2.2))
  refine pm_s_iload_n (j := 2) (by decide +kernel) rfl rfl ?_
  refine pm_s_aload_n (j := 3) (by decide +kernel) rfl rfl ?_
  refine sb_call mi_J4_length_8abf5 (ix := 294) (n := 0) (kc2 := 19) (ks2 := 570) (As := []) (rest := [.int y]) (wr := μ.2.2.2) (P2 := fun r u => r = some (.int (nI (lr_note p wt re st ho rs si en tr).length)) ∧ u = sb_w (fun _ => c5) b va (lr_note p wt re st ho rs si en tr).length m a) (some (.int (nI (lr_note p wt re st ho rs si en tr).length))) (fun D tc h5 => by subst h5; exact c_J4_length_8abf5 D tc b va _ m a) rfl cal_J4_length_8abf5 (pm_tab (i := 1111) (by decide +kernel) rfl) (pm_tab (i := 1112) (by decide +kernel) rfl) (pm_tab (i := 1110) (by decide +kernel) rfl) (by decide +kernel) (by decide +kernel) rfl (fun _ => rfl) rfl rfl (Nat.le_of_ble_eq_true rfl) (by decide) (by decide) (fun v w1 h ad e => h.1) ?_
  rintro _ _ ⟨-, rfl⟩
  refine pm_callS2 mi_X9_isBelow (ix := 130) (kc2 := 19) (ks2 := 570) (As := [.int y, .int (nI (lr_note p wt re st ho rs si en tr).length)]) (rest := []) (c_X9_isBelow y (nI (lr_note p wt re st ho rs si en tr).length) _) cal_X9_isBelow (pm_tab (i := 404) (by decide +kernel) rfl) (by decide +kernel) rfl (by decide +kernel) rfl rfl (Nat.le_of_ble_eq_true rfl) (by decide) (by decide) (fun _ _ h9 => h9.elim) ?_
  rintro _ _ ⟨rfl, h9⟩; rw [h9]; clear h9
  show pm_V _ _ _ _ 25 _ [.int (lr_b (lr_be y (nI (lr_note p wt re st ho rs si en tr).length)))] _
  refine pm_ifb_ne (off := 14) 39 (by decide +kernel) (by decide) (fun h9 => absurd (hy.symm.trans h9) (by decide)) (fun _ => ?_)
  refine sb_drop (E := sb_w (fun _ => c5) b va _ m a) (E' := μ.2.2.2) ?_ rfl
  exact pm_throwXW (is := 298) (tx := "there is no such index") pm_exNS rfl (by decide +kernel) rfl (by decide +kernel) (by decide +kernel) (by decide +kernel) (by decide +kernel) (by decide +kernel) (by decide) (by decide) ⟨rfl, rfl⟩
set_option maxHeartbeats 4000000 in
set_option maxRecDepth 100000 in
theorem c_X9_note {g : Nat → Int32} {h p wt re st ho rs si en tr : Nat} {k : Nat} (μ : pm_Mm) (hR : lr_Rel μ.1 1 g) (hG : lr_G g) (hh : h < lr_n g 289) (hL : lr_Ln g h p wt re st ho rs si en tr) (hk : k < (lr_note p wt re st ho rs si en tr).length) (hk2 : (lr_note p wt re st ho rs si en tr).length ≤ 34) : pm_CT mi_X9_note [.ref 0, .int (nI h), .int (nI k)] μ (fun v μ2 => v = some (.int (nI ((lr_note p wt re st ho rs si en tr).getD k 0))) ∧ (lr_note p wt re st ho rs si en tr).getD k 0 < 256 ∧ μ2 = μ) pm_NX := by
  refine pm_CT_of (lo := [some (.ref 0), some (.int (nI h)), some (.int (nI k)), none]) (by decide +kernel) rfl rfl (by intro v hv; simp at hv; rcases hv with rfl | rfl | rfl <;> rfl) (Nat.le_of_ble_eq_true rfl) rfl ?_
  have hm1 := lr_mh hG; have hm2 := lr_mw hG; have hm3 := lr_mp hG; have hm4 := lr_mr hG; have hm5 := lr_ma hG; have hm6 := lr_ml hG
  refine pm_s_aload_n (j := 0) (by decide +kernel) rfl rfl ?_
  refine pm_s_iload_n (j := 1) (by decide +kernel) rfl rfl ?_
  refine pm_callV2 mi_X9_requireLetter (ix := 282) (b := 0) (ci := 9) (kc2 := 1) (ks2 := 6) (As := [.int (nI h)]) (rest := []) (c_X9_requireLetter (nI h) μ hR hG (lr_be_1 hh (by omega))) cal_X9_requireLetter (pm_tab (i := 930) (by decide +kernel) rfl) (by decide +kernel) rfl (by decide +kernel) rfl rfl rfl rfl (Nat.le_of_ble_eq_true rfl) (by decide) (by decide) (fun _ _ h9 => h9.elim) ?_
  rintro _ _ ⟨rfl, h9⟩; rw [h9]; clear h9
  show pm_V mi_X9_note _ 1 6 5 [some (.ref 0), some (.int (nI h)), some (.int (nI k)), none] [] μ
  refine pm_s_aload_n (j := 0) (by decide +kernel) rfl rfl ?_
  refine pm_s_getr (ix := 10) (ci := 9) (fk := 0) (r := 0) (r1 := 1) (by decide +kernel) rfl rfl (by decide +kernel) ?_
  refine pm_s_getr (ix := 235) (ci := 5) (fk := 5) (r := 1) (r1 := 26) (by decide +kernel) rfl rfl (by decide +kernel) ?_
  refine pm_s_iload_n (j := 1) (by decide +kernel) rfl rfl ?_
  refine sb_callB mi_X4_writeNote (ix := 290) (r := 26) (ci := 4) (kc2 := 19) (ks2 := 570) (As := [.int (nI h)]) (rest := []) (c_X4_writeNote μ (show h < 30 by omega) (sb_Ln_of hR hh hL)) cal_X4_writeNote (pm_tab (i := 947) (by decide +kernel) rfl) (by decide +kernel) (by decide +kernel) rfl rfl rfl rfl (Nat.le_of_ble_eq_true rfl) (by decide) (by decide) (by intro v hv e; subst e; simp at hv) (by intro v hv; cases hv) (by rintro _ _ ⟨rfl, -⟩ e; cases e) ?_
  rintro b c5 _ ⟨va, m, a, rfl, hI⟩
  refine pm_s_astore_n (j := 3) (a := 3) (by decide +kernel) rfl (by decide) rfl (Nat.le_of_ble_eq_true rfl) ?_
  show pm_V mi_X9_note (_, _, sb_Tie b c5) 19 570 17 [some (.ref 0), some (.int (nI h)), some (.int (nI k)), some (.ref 2000)] [] (sb_m μ (sb_w (fun _ => c5) b va _ m a ++ μ.2.2.2))
  refine pm_s_iload_n (j := 2) (by decide +kernel) rfl rfl ?_
  refine pm_s_aload_n (j := 3) (by decide +kernel) rfl rfl ?_
  refine sb_call mi_J4_length_8abf5 (ix := 294) (n := 0) (kc2 := 19) (ks2 := 570) (As := []) (rest := [.int (nI k)]) (wr := μ.2.2.2) (P2 := fun r u => r = some (.int (nI (lr_note p wt re st ho rs si en tr).length)) ∧ u = sb_w (fun _ => c5) b va (lr_note p wt re st ho rs si en tr).length m a) (some (.int (nI (lr_note p wt re st ho rs si en tr).length))) (fun D tc h5 => by subst h5; exact c_J4_length_8abf5 D tc b va _ m a) rfl cal_J4_length_8abf5 (pm_tab (i := 1111) (by decide +kernel) rfl) (pm_tab (i := 1112) (by decide +kernel) rfl) (pm_tab (i := 1110) (by decide +kernel) rfl) (by decide +kernel) (by decide +kernel) rfl (fun _ => rfl) rfl rfl (Nat.le_of_ble_eq_true rfl) (by decide) (by decide) (fun v w1 h ad e => h.1) ?_
  rintro _ _ ⟨-, rfl⟩
  refine pm_callS2 mi_X9_isBelow (ix := 130) (kc2 := 19) (ks2 := 570) (As := [.int (nI k), .int (nI (lr_note p wt re st ho rs si en tr).length)]) (rest := []) (c_X9_isBelow (nI k) (nI (lr_note p wt re st ho rs si en tr).length) _) cal_X9_isBelow (pm_tab (i := 404) (by decide +kernel) rfl) (by decide +kernel) rfl (by decide +kernel) rfl rfl (Nat.le_of_ble_eq_true rfl) (by decide) (by decide) (fun _ _ h9 => h9.elim) ?_
  rintro _ _ ⟨rfl, h9⟩; rw [h9]; clear h9
  show pm_V _ _ _ _ 25 _ [.int (lr_b (lr_be (nI k) (nI (lr_note p wt re st ho rs si en tr).length)))] _
  refine pm_ifb_ne (off := 14) 39 (by decide +kernel) (by decide) (fun _ => ?_) (fun h9 => absurd ((lr_be_1 hk (by omega)).symm.trans h9) (by decide))
  refine pm_s_aload_n (j := 3) (by decide +kernel) rfl rfl ?_
  refine pm_s_iload_n (j := 2) (by decide +kernel) rfl rfl ?_
  refine sb_call mi_J4_charAt_5068e (ix := 300) (n := 1) (kc2 := 19) (ks2 := 570) (As := [.int (nI k)]) (rest := []) (wr := μ.2.2.2) (P2 := fun r u => r = some (.int (nI ((lr_note p wt re st ho rs si en tr).getD k 0))) ∧ u = sb_w (fun _ => c5) b va (lr_note p wt re st ho rs si en tr).length m a) (some (.int (nI ((lr_note p wt re st ho rs si en tr).getD k 0)))) (fun D tc h5 => by subst h5; exact c_J4_charAt_5068e D tc b va m hI hk) rfl cal_J4_charAt_5068e (pm_tab (i := 1126) (by decide +kernel) rfl) (pm_tab (i := 1127) (by decide +kernel) rfl) (pm_tab (i := 1125) (by decide +kernel) rfl) (by decide +kernel) (by decide +kernel) rfl (fun _ => rfl) rfl rfl (Nat.le_of_ble_eq_true rfl) (by decide) (by decide) (fun v w1 h ad e => h.1) ?_
  rintro _ _ ⟨-, rfl⟩
  refine sb_drop (E := sb_w (fun _ => c5) b va _ m a) (E' := μ.2.2.2) ?_ rfl
  have hc := (hI.1 k hk).1
  exact pm_iret (ty := .char) rfl (pk_charN (by omega)).1 (by decide) (by decide) (by decide +kernel) ⟨rfl, hc, rfl⟩
theorem lk11_91 : Cond.methodLink (pm_R 11) 91 yX9_noteLength ∈ pm_good := pm_tab (i := 943) (by decide +kernel) rfl
theorem lk11_94 : Cond.methodLink (pm_R 11) 94 yX9_note ∈ pm_good := pm_tab (i := 1120) (by decide +kernel) rfl
abbrev mi_L_noteLength : pm_Mi := (11, yL_noteLength, cL_noteLength, 4, some .int, { frames := 10, cells := 19, slots := 570, locals := 259 }, [(0, 9, 12, 21)])
abbrev mi_L_note : pm_Mi := (11, yL_note, cL_note, 5, some .int, { frames := 10, cells := 20, slots := 576, locals := 261 }, [(0, 10, 13, 21), (0, 10, 17, 33)])
set_option maxHeartbeats 4000000 in
set_option maxRecDepth 100000 in
theorem c_L_noteLength {x0 : Int32} (μ : pm_Mm) {P2 : Option Value → pm_Mm → Prop} {X2 : String → pm_Mm → Prop} (hC : pm_CT mi_X9_noteLength [.ref 0, .int x0] μ P2 X2) (P : Option Value → pm_Mm → Prop) (hP : ∀ v M, P2 v M → ∃ x : Int32, v = some (.int x) ∧ P (some (.int 0)) (pm_setL M 0 x.toInt64)) (hX : ∀ E M, X2 E M → (E = "java/lang/IndexOutOfBoundsException" ∧ P (some (.int 1)) M)) : pm_CT mi_L_noteLength [.ref 0, .int x0, .ref 55] μ P pm_NX := by
  refine pm_CT_ofH (lo := [some (.ref 0), some (.int x0), some (.ref 55), none]) (by decide +kernel) rfl rfl (by intro v hv; simp at hv; rcases hv with rfl | rfl | rfl <;> rfl) (Nat.le_of_ble_eq_true rfl) rfl ?_
  refine pm_bl [(.aload_n 2, 1, 2, 0, 0), (.iconst 0, 1, 0, 0, 0), (.aload_n 0, 1, 0, 0, 0), (.iload_n 1, 1, 1, 0, 0)] (pc1 := 4) (lo1 := [some (.ref 0), some (.int x0), some (.ref 55), none]) (st1 := [.int x0, .ref 0, .int 0, .ref 55]) (μ1 := μ) (vc := True) rfl (by decide +kernel) rfl trivial ?_
  refine pm_callVH mi_X9_noteLength (ix := 91) (b := 0) (ci := 9) (As := [.int x0]) (rest := [.int 0, .ref 55]) hC cal_X9_noteLength lk11_91 (by decide +kernel) (by decide +kernel) rfl rfl rfl rfl (Nat.le_of_ble_eq_true rfl) ?_ ?_
  · intro E M hE
    obtain ⟨rfl, h⟩ := hX E M hE
    refine ⟨12, ⟨[], (0, 9, 12, 21), [], "java/lang/IndexOutOfBoundsException", rfl, fun z hz => absurd hz (by simp), ⟨by decide, by decide⟩, by decide, pm_tab (i := 519) (by decide +kernel) rfl, by decide +kernel, rfl⟩, pm_q_astore_n (j := 3) (a := 3) (by decide +kernel) rfl (by decide) rfl (by simp) ?_⟩
    show pm_V _ _ _ _ 13 [some (.ref 0), some (.int x0), some (.ref 55), none] [] _
    refine pm_bl [(.iconst 1, 1, 0, 0, 1)] (pc1 := 14) (lo1 := [some (.ref 0), some (.int x0), some (.ref 55), none]) (st1 := [.int 1]) (μ1 := M) (vc := True) rfl (by decide +kernel) rfl trivial ?_
    exact pm_iret (ty := .int) rfl rfl (by decide) (by decide) (by decide +kernel) h
  · intro v M hv
    obtain ⟨x, rfl, h⟩ := hP v M hv
    show pm_V _ _ _ _ 7 _ [.int x, .int 0, .ref 55] _
    refine pm_bl [(.i2l, 1, 0, 0, 0)] (pc1 := 8) (lo1 := [some (.ref 0), some (.int x0), some (.ref 55), none]) (st1 := [.long x.toInt64, .int 0, .ref 55]) (μ1 := M) (vc := True) rfl (by decide +kernel) rfl trivial ?_
    refine pm_s_last (r := 55) (n := 1) rfl rfl (by unfold vp_in; decide) (by decide +kernel) ?_
    rw [show (0 : Int32).toNatClampNeg = 0 from by decide]
    refine pm_bl [(.goto 6, 3, 15, 0, 0), (.iconst 0, 1, 0, 0, 0)] (pc1 := 16) (lo1 := [some (.ref 0), some (.int x0), some (.ref 55), none]) (st1 := [.int 0]) (μ1 := pm_setL M 0 x.toInt64) (vc := True) rfl (by decide +kernel) rfl trivial ?_
    exact pm_iret (ty := .int) rfl rfl (by decide) (by decide) (by decide +kernel) h
set_option maxHeartbeats 4000000 in
set_option maxRecDepth 100000 in
theorem c_L_note {x0 x1 : Int32} (μ : pm_Mm) {P2 : Option Value → pm_Mm → Prop} {X2 : String → pm_Mm → Prop} (hC : pm_CT mi_X9_note [.ref 0, .int x0, .int x1] μ P2 X2) (P : Option Value → pm_Mm → Prop) (hP : ∀ v M, P2 v M → ∃ x : Int32, v = some (.int x) ∧ P (some (.int 0)) (pm_setL M 0 x.toInt64)) (hX : ∀ E M, X2 E M → (E = "java/lang/IndexOutOfBoundsException" ∧ P (some (.int 1)) M) ∨ (E = "java/util/NoSuchElementException" ∧ P (some (.int 2)) M)) : pm_CT mi_L_note [.ref 0, .int x0, .int x1, .ref 55] μ P pm_NX := by
  refine pm_CT_ofH (lo := [some (.ref 0), some (.int x0), some (.int x1), some (.ref 55), none]) (by decide +kernel) rfl rfl (by intro v hv; simp at hv; rcases hv with rfl | rfl | rfl | rfl <;> rfl) (Nat.le_of_ble_eq_true rfl) rfl ?_
  refine pm_bl [(.aload_n 3, 1, 3, 0, 0), (.iconst 0, 1, 0, 0, 0), (.aload_n 0, 1, 0, 0, 0), (.iload_n 1, 1, 1, 0, 0), (.iload_n 2, 1, 2, 0, 0)] (pc1 := 5) (lo1 := [some (.ref 0), some (.int x0), some (.int x1), some (.ref 55), none]) (st1 := [.int x1, .int x0, .ref 0, .int 0, .ref 55]) (μ1 := μ) (vc := True) rfl (by decide +kernel) rfl trivial ?_
  refine pm_callVH mi_X9_note (ix := 94) (b := 0) (ci := 9) (As := [.int x0, .int x1]) (rest := [.int 0, .ref 55]) hC cal_X9_note lk11_94 (by decide +kernel) (by decide +kernel) rfl rfl rfl rfl (Nat.le_of_ble_eq_true rfl) ?_ ?_
  · intro E M hE
    rcases hX E M hE with ⟨rfl, h⟩ | ⟨rfl, h⟩
    · refine ⟨13, ⟨[], (0, 10, 13, 21), [(0, 10, 17, 33)], "java/lang/IndexOutOfBoundsException", rfl, fun z hz => absurd hz (by simp), ⟨by decide, by decide⟩, by decide, pm_tab (i := 519) (by decide +kernel) rfl, by decide +kernel, rfl⟩, pm_q_astore (a := 4) (by decide +kernel) (by decide) rfl (by simp) ?_⟩
      show pm_V _ _ _ _ 15 [some (.ref 0), some (.int x0), some (.int x1), some (.ref 55), none] [] _
      refine pm_bl [(.iconst 1, 1, 0, 0, 1)] (pc1 := 16) (lo1 := [some (.ref 0), some (.int x0), some (.int x1), some (.ref 55), none]) (st1 := [.int 1]) (μ1 := M) (vc := True) rfl (by decide +kernel) rfl trivial ?_
      exact pm_iret (ty := .int) rfl rfl (by decide) (by decide) (by decide +kernel) h
    · refine ⟨17, ⟨[(0, 10, 13, 21)], (0, 10, 17, 33), [], "java/util/NoSuchElementException", rfl, fun z hz => by
        simp only [List.mem_cons, List.not_mem_nil, or_false] at hz
        rcases hz with rfl
        · exact ⟨by decide, "java/lang/IndexOutOfBoundsException", pm_tab (i := 519) (by decide +kernel) rfl, by decide +kernel⟩, ⟨by decide, by decide⟩, by decide, pm_tab (i := 613) (by decide +kernel) rfl, by decide +kernel, rfl⟩, pm_q_astore (a := 4) (by decide +kernel) (by decide) rfl (by simp) ?_⟩
      show pm_V _ _ _ _ 19 [some (.ref 0), some (.int x0), some (.int x1), some (.ref 55), none] [] _
      refine pm_bl [(.iconst 2, 1, 0, 0, 2)] (pc1 := 20) (lo1 := [some (.ref 0), some (.int x0), some (.int x1), some (.ref 55), none]) (st1 := [.int 2]) (μ1 := M) (vc := True) rfl (by decide +kernel) rfl trivial ?_
      exact pm_iret (ty := .int) rfl rfl (by decide) (by decide) (by decide +kernel) h
  · intro v M hv
    obtain ⟨x, rfl, h⟩ := hP v M hv
    show pm_V _ _ _ _ 8 _ [.int x, .int 0, .ref 55] _
    refine pm_bl [(.i2l, 1, 0, 0, 0)] (pc1 := 9) (lo1 := [some (.ref 0), some (.int x0), some (.int x1), some (.ref 55), none]) (st1 := [.long x.toInt64, .int 0, .ref 55]) (μ1 := M) (vc := True) rfl (by decide +kernel) rfl trivial ?_
    refine pm_s_last (r := 55) (n := 1) rfl rfl (by unfold vp_in; decide) (by decide +kernel) ?_
    rw [show (0 : Int32).toNatClampNeg = 0 from by decide]
    refine pm_bl [(.goto 11, 3, 21, 0, 0), (.iconst 0, 1, 0, 0, 0)] (pc1 := 22) (lo1 := [some (.ref 0), some (.int x0), some (.int x1), some (.ref 55), none]) (st1 := [.int 0]) (μ1 := pm_setL M 0 x.toInt64) (vc := True) rfl (by decide +kernel) rfl trivial ?_
    exact pm_iret (ty := .int) rfl rfl (by decide) (by decide) (by decide +kernel) h
theorem lr_Vv.nt {f f2 : Nat → Nat → Int32} {g : Nat → Int32} {c n : Nat} {F : Nat → Nat → Int32} (h : lr_Vv f g c n F) (hm : ∀ i, i ≠ 47 → i ≠ 52 → f2 i = f i) (hk : ∀ k, k ≠ 7 → k ≠ 9 → f2 47 k = f 47 k) : lr_Vv f2 g c n F := by
  obtain ⟨a1, a2, a3, a4, a5, a6, a7, a8, a9, a10⟩ := h
  refine ⟨(hm 48 (by decide) (by decide)).trans a1, a2, a3.fr (fun i h1 h2 => hm i (by omega) (by omega)), a4.fr (fun i h1 => hm i (by omega) (by omega)), a5.fr (hk 5 (by decide) (by decide)) (hm 51 (by decide) (by decide)), a6, a7.fr ?_ (hk 3 (by decide) (by decide)) (hm 49 (by decide) (by decide)) (fun i h1 h2 => hm i (by omega) (by omega)), ?_, a9.fr ?_ (hk 6 (by decide) (by decide)), a10.fr ?_ (hk 11 (by decide) (by decide)) (hm 44 (by decide) (by decide)) (hm 53 (by decide) (by decide))⟩
  · rw [hm 0 (by decide) (by decide)]
  · rw [hm 0 (by decide) (by decide), hk 13 (by decide) (by decide)]; exact a8
  · rw [hm 0 (by decide) (by decide)]
  · rw [hm 40 (by decide) (by decide)]
theorem lr_nt_V {μ μ0 M : pm_Mm} {L : List Nat} {g : Nat → Int32} {c n : Nat} {F : Nat → Nat → Int32} (hV : lr_Vv μ.1 g c n F) (h0 : μ0.1 = (pm_set μ 47 7 0).1) (hN : lr_Nt μ0 L M) : lr_Vv M.1 g c n F := by
  refine hV.nt (fun i h1 h2 => ?_) (fun k h1 h2 => ?_)
  · funext j
    rw [hN.1 i j h2 (fun e => h1 e.1), h0, pm_set_off h1]
  · rw [hN.1 47 k (by decide) (fun e => h2 e.2), h0, pm_set_miss (Or.inr h1)]
theorem lr_nt_end {μ M : pm_Mm} {L : List Nat} {g : Nat → Int32} {c n : Nat} {F : Nat → Nat → Int32} {x y : Int32} (hV : lr_Vv μ.1 g c n F) (hxy : x = y) (hN : lr_Nt (pm_set (pm_setL μ 0 x.toInt64) 47 7 0) L M) : M.1 47 7 = 0 ∧ ((0 : Int32) = 0 → M.2.1 0 = y.toInt64) ∧ lr_V M.1 := by
  subst hxy
  refine ⟨by rw [hN.1 47 7 (by decide) (by decide), pm_set_hit], fun _ => ?_, _, _, _, _, lr_nt_V (μ := μ) (μ0 := pm_set (pm_setL μ 0 x.toInt64) 47 7 0) hV rfl hN⟩
  rw [hN.2.1]
  exact lr_L_at
theorem lr_nt_thr {μ M : pm_Mm} {L : List Nat} {g : Nat → Int32} {c n : Nat} {F : Nat → Nat → Int32} {k y : Int32} (hV : lr_Vv μ.1 g c n F) (hk : ¬ k = 0) (hN : lr_Nt (pm_set μ 47 7 0) L M) : (pm_set M 47 7 k).1 47 7 = k ∧ (k = 0 → (pm_set M 47 7 k).2.1 0 = y.toInt64) ∧ lr_V (pm_set M 47 7 k).1 :=
  ⟨by rw [pm_set_at]; unfold upd; simp, fun h => absurd h hk, _, _, _, _, (lr_nt_V hV rfl hN).nt (fun i h1 _ => pm_set_off h1) (fun j h1 _ => pm_set_miss (Or.inr h1))⟩
set_option maxHeartbeats 4000000 in
set_option maxRecDepth 100000 in
theorem st_noteLength (x0 : Int32) (μ : pm_Mm) (hV : lr_V μ.1) : lr_St mi_L_noteLength mi_X10_noteLength [.ref 0, .int x0, .ref 55] [.ref 47, .int x0] μ := by
  obtain ⟨g, c, n, F, hV⟩ := hV
  obtain ⟨a1, hI, a3, a4, a5, a6, a7, a8, a9, a10⟩ := id hV
  have hG := hI.1
  have hm1 := lr_mh hG; have hm2 := lr_mw hG; have hm3 := lr_mp hG; have hm4 := lr_mr hG; have hm5 := lr_ma hG; have hm6 := lr_ml hG
  unfold lr_St
  rcases Bool.eq_false_or_eq_true (lr_be x0 (nI (lr_n g 289))) with hb | hb
  · obtain ⟨h, hh, rfl⟩ := lr_be_t (by omega) hb
    obtain ⟨p, wt, re, st, ho, rs, si, en, tr, hL⟩ := lr_Ln_of hG hh
    have hlen := lr_note_len (p := p) (wt := wt) (ho := ho) (rs := rs) (si := si) (en := en) (tr := tr) (show re ≤ 1 from hL.2.2.2.2.2.2.2.2.2.2.2.1) (show st ≤ 2 from hL.2.2.2.2.2.2.2.2.2.2.2.2.1)
    refine c_L_noteLength μ (c_X9_noteLength μ a3 hG hh hL) _ ?_ (fun _ _ h => h.elim)
    rintro _ _ ⟨rfl, h9⟩; rw [h9]; clear h9
    refine ⟨_, rfl, _, rfl, (c_X10_noteLength (pm_setL μ 0 _) a1 hG hh hL).imp ?_ (fun _ _ h => h.elim)⟩
    rintro _ M2 ⟨rfl, hN⟩
    exact ⟨_, rfl, lr_nt_end hV rfl hN⟩
  · refine c_L_noteLength μ (c_X9_noteLength_no μ a3 hG hb) _ (fun _ _ h => h.elim) ?_
    rintro _ _ ⟨rfl, h9⟩; rw [h9]; clear h9
    refine ⟨rfl, _, rfl, (c_X10_noteLength_no1 μ a1 hG hb).imp ?_ (fun _ _ h => h.elim)⟩
    rintro _ _ ⟨rfl, h9⟩; rw [h9]; clear h9
    exact ⟨_, rfl, lr_thr_end hV (by decide)⟩
set_option maxHeartbeats 4000000 in
set_option maxRecDepth 100000 in
theorem st_note (x0 x1 : Int32) (μ : pm_Mm) (hV : lr_V μ.1) : lr_St mi_L_note mi_X10_note [.ref 0, .int x0, .int x1, .ref 55] [.ref 47, .int x0, .int x1] μ := by
  obtain ⟨g, c, n, F, hV⟩ := hV
  obtain ⟨a1, hI, a3, a4, a5, a6, a7, a8, a9, a10⟩ := id hV
  have hG := hI.1
  have hm1 := lr_mh hG; have hm2 := lr_mw hG; have hm3 := lr_mp hG; have hm4 := lr_mr hG; have hm5 := lr_ma hG; have hm6 := lr_ml hG
  unfold lr_St
  rcases Bool.eq_false_or_eq_true (lr_be x0 (nI (lr_n g 289))) with hb | hb
  · obtain ⟨h, hh, rfl⟩ := lr_be_t (by omega) hb
    obtain ⟨p, wt, re, st, ho, rs, si, en, tr, hL⟩ := lr_Ln_of hG hh
    have hlen := lr_note_len (p := p) (wt := wt) (ho := ho) (rs := rs) (si := si) (en := en) (tr := tr) (show re ≤ 1 from hL.2.2.2.2.2.2.2.2.2.2.2.1) (show st ≤ 2 from hL.2.2.2.2.2.2.2.2.2.2.2.2.1)
    rcases Bool.eq_false_or_eq_true (lr_be x1 (nI (lr_note p wt re st ho rs si en tr).length)) with hy | hy
    · obtain ⟨k, hk, rfl⟩ := lr_be_t (by omega) hy
      refine c_L_note μ (c_X9_note μ a3 hG hh hL hk hlen.2) _ ?_ (fun _ _ h => h.elim)
      rintro _ _ ⟨rfl, hc, h9⟩; rw [h9]; clear h9
      refine ⟨_, rfl, _, rfl, (c_X10_note (pm_setL μ 0 _) a1 hG hh hL hk (by omega)).imp ?_ (fun _ _ h => h.elim)⟩
      rintro _ M2 ⟨rfl, hN⟩
      exact ⟨_, rfl, lr_nt_end hV (sb_byte _ hc).2.1.symm hN⟩
    · refine c_L_note μ (c_X9_note_no2 μ a3 hG hh hL hy) _ (fun _ _ h => h.elim) ?_
      rintro _ _ ⟨rfl, h9⟩; rw [h9]; clear h9
      refine Or.inr ⟨rfl, _, rfl, (c_X10_note_no2 μ a1 hG hh hL (lr_be_in hlen.1 (by omega) hy)).imp ?_ (fun _ _ h => h.elim)⟩
      rintro _ _ ⟨rfl, M, hN, rfl⟩
      exact ⟨_, rfl, lr_nt_thr hV (by decide) hN⟩
  · refine c_L_note μ (c_X9_note_no1 x1 μ a3 hG hb) _ (fun _ _ h => h.elim) ?_
    rintro _ _ ⟨rfl, h9⟩; rw [h9]; clear h9
    refine Or.inl ⟨rfl, _, rfl, (c_X10_note_no1 x1 μ a1 hG hb).imp ?_ (fun _ _ h => h.elim)⟩
    rintro _ _ ⟨rfl, h9⟩; rw [h9]; clear h9
    exact ⟨_, rfl, lr_thr_end hV (by decide)⟩
