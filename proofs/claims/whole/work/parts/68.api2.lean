/-! the class: redirects, holds, signing, letters -/
set_option maxHeartbeats 4000000 in
set_option maxRecDepth 100000 in
theorem c_X9_redirectPerson_no1 {g : Nat → Int32} {x : Int32} (y z u : Int32) (μ : pm_Mm) (hR : lr_Rel μ.1 1 g) (hG : lr_G g) (hb : lr_be x (nI (lr_n g 35)) = false) : pm_CT mi_X9_redirectPerson [.ref 0, .int x, .int y, .int z, .int u] μ (fun _ _ => False) (fun E μ2 => E = "java/lang/IndexOutOfBoundsException" ∧ μ2 = μ) := by
  refine pm_CT_of (lo := [some (.ref 0), some (.int x), some (.int y), some (.int z), some (.int u)]) (by decide +kernel) rfl rfl (by intro v hv; simp at hv; rcases hv with rfl | rfl | rfl | rfl | rfl <;> rfl) (Nat.le_of_ble_eq_true rfl) rfl ?_
  have hm1 := lr_mh hG; have hm2 := lr_mw hG; have hm3 := lr_mp hG; have hm4 := lr_mr hG; have hm5 := lr_ma hG; have hm6 := lr_ml hG
  refine pm_bl [(.aload_n 0, 1, 0, 0, 0), (.iload_n 1, 1, 1, 0, 0)] (pc1 := 2) (lo1 := [some (.ref 0), some (.int x), some (.int y), some (.int z), some (.int u)]) (st1 := [.int x, .ref 0]) (μ1 := μ) (vc := True) rfl (by decide +kernel) rfl trivial ?_
  refine pm_callV2 mi_X9_requirePerson (ix := 151) (b := 0) (ci := 9) (kc2 := 1) (ks2 := 6) (As := [.int x]) (rest := []) (c_X9_requirePerson_no x μ hR hG hb) cal_X9_requirePerson lk9_151 (by decide +kernel) rfl (by decide +kernel) rfl rfl rfl rfl (Nat.le_of_ble_eq_true rfl) (by decide) (by decide) (fun E μ9 h9 => h9) ?_
  rintro _ _ h9; exact h9.elim
set_option maxHeartbeats 4000000 in
set_option maxRecDepth 100000 in
theorem c_X9_redirectPerson_no1b {g : Nat → Int32} {h : Nat} {x : Int32} (z u : Int32) (μ : pm_Mm) (hR : lr_Rel μ.1 1 g) (hG : lr_G g) (hh : h < lr_n g 35) (hb : lr_be x (nI (lr_n g 2)) = false) : pm_CT mi_X9_redirectPerson [.ref 0, .int (nI h), .int x, .int z, .int u] μ (fun _ _ => False) (fun E μ2 => E = "java/lang/IndexOutOfBoundsException" ∧ μ2 = μ) := by
  refine pm_CT_of (lo := [some (.ref 0), some (.int (nI h)), some (.int x), some (.int z), some (.int u)]) (by decide +kernel) rfl rfl (by intro v hv; simp at hv; rcases hv with rfl | rfl | rfl | rfl | rfl <;> rfl) (Nat.le_of_ble_eq_true rfl) rfl ?_
  have hm1 := lr_mh hG; have hm2 := lr_mw hG; have hm3 := lr_mp hG; have hm4 := lr_mr hG; have hm5 := lr_ma hG; have hm6 := lr_ml hG
  refine pm_bl [(.aload_n 0, 1, 0, 0, 0), (.iload_n 1, 1, 1, 0, 0)] (pc1 := 2) (lo1 := [some (.ref 0), some (.int (nI h)), some (.int x), some (.int z), some (.int u)]) (st1 := [.int (nI h), .ref 0]) (μ1 := μ) (vc := True) rfl (by decide +kernel) rfl trivial ?_
  refine pm_callV2 mi_X9_requirePerson (ix := 151) (b := 0) (ci := 9) (kc2 := 1) (ks2 := 6) (As := [.int (nI h)]) (rest := []) (c_X9_requirePerson (nI h) μ (by first | exact hR | exact hR1) hG (lr_be_1 hh (by omega))) cal_X9_requirePerson lk9_151 (by decide +kernel) rfl (by decide +kernel) rfl rfl rfl rfl (Nat.le_of_ble_eq_true rfl) (by decide) (by decide) (fun _ _ h9 => h9.elim) ?_
  rintro _ _ ⟨rfl, h9⟩; rw [h9]; clear h9
  show pm_V _ _ _ _ 5 _ [] _
  refine pm_bl [(.aload_n 0, 1, 0, 0, 0), (.iload_n 2, 1, 2, 0, 0)] (pc1 := 7) (lo1 := [some (.ref 0), some (.int (nI h)), some (.int x), some (.int z), some (.int u)]) (st1 := [.int x, .ref 0]) (μ1 := μ) (vc := True) rfl (by decide +kernel) rfl trivial ?_
  refine pm_callV2 mi_X9_requireHouse (ix := 86) (b := 0) (ci := 9) (kc2 := 2) (ks2 := 12) (As := [.int x]) (rest := []) (c_X9_requireHouse_no x μ hR hG hb) cal_X9_requireHouse lk9_86 (by decide +kernel) rfl (by decide +kernel) rfl rfl rfl rfl (Nat.le_of_ble_eq_true rfl) (by decide) (by decide) (fun E μ9 h9 => h9) ?_
  rintro _ _ h9; exact h9.elim
set_option maxHeartbeats 4000000 in
set_option maxRecDepth 100000 in
theorem c_X9_redirectPerson_no2 {g : Nat → Int32} {h q : Nat} {z u : Int32} (μ : pm_Mm) (hR : lr_Rel μ.1 1 g) (hG : lr_G g) (hh : h < lr_n g 35) (hq2 : q < lr_n g 2) (hl : lr_dys z u = false) : pm_CT mi_X9_redirectPerson [.ref 0, .int (nI h), .int (nI q), .int z, .int u] μ (fun _ _ => False) (fun E μ2 => E = "java/lang/IllegalArgumentException" ∧ μ2 = μ) := by
  refine pm_CT_of (lo := [some (.ref 0), some (.int (nI h)), some (.int (nI q)), some (.int z), some (.int u)]) (by decide +kernel) rfl rfl (by intro v hv; simp at hv; rcases hv with rfl | rfl | rfl | rfl | rfl <;> rfl) (Nat.le_of_ble_eq_true rfl) rfl ?_
  have hm1 := lr_mh hG; have hm2 := lr_mw hG; have hm3 := lr_mp hG; have hm4 := lr_mr hG; have hm5 := lr_ma hG; have hm6 := lr_ml hG
  refine pm_bl [(.aload_n 0, 1, 0, 0, 0), (.iload_n 1, 1, 1, 0, 0)] (pc1 := 2) (lo1 := [some (.ref 0), some (.int (nI h)), some (.int (nI q)), some (.int z), some (.int u)]) (st1 := [.int (nI h), .ref 0]) (μ1 := μ) (vc := True) rfl (by decide +kernel) rfl trivial ?_
  refine pm_callV2 mi_X9_requirePerson (ix := 151) (b := 0) (ci := 9) (kc2 := 1) (ks2 := 6) (As := [.int (nI h)]) (rest := []) (c_X9_requirePerson (nI h) μ (by first | exact hR | exact hR1) hG (lr_be_1 hh (by omega))) cal_X9_requirePerson lk9_151 (by decide +kernel) rfl (by decide +kernel) rfl rfl rfl rfl (Nat.le_of_ble_eq_true rfl) (by decide) (by decide) (fun _ _ h9 => h9.elim) ?_
  rintro _ _ ⟨rfl, h9⟩; rw [h9]; clear h9
  show pm_V _ _ _ _ 5 _ [] _
  refine pm_bl [(.aload_n 0, 1, 0, 0, 0), (.iload_n 2, 1, 2, 0, 0)] (pc1 := 7) (lo1 := [some (.ref 0), some (.int (nI h)), some (.int (nI q)), some (.int z), some (.int u)]) (st1 := [.int (nI q), .ref 0]) (μ1 := μ) (vc := True) rfl (by decide +kernel) rfl trivial ?_
  refine pm_callV2 mi_X9_requireHouse (ix := 86) (b := 0) (ci := 9) (kc2 := 2) (ks2 := 12) (As := [.int (nI q)]) (rest := []) (c_X9_requireHouse (nI q) μ (by first | exact hR | exact hR1) hG (lr_be_1 hq2 (by omega))) cal_X9_requireHouse lk9_86 (by decide +kernel) rfl (by decide +kernel) rfl rfl rfl rfl (Nat.le_of_ble_eq_true rfl) (by decide) (by decide) (fun _ _ h9 => h9.elim) ?_
  rintro _ _ ⟨rfl, h9⟩; rw [h9]; clear h9
  show pm_V _ _ _ _ 10 _ [] _
  refine pm_bl [(.iload_n 3, 1, 3, 0, 0), (.iload 4, 2, 4, 0, 0)] (pc1 := 13) (lo1 := [some (.ref 0), some (.int (nI h)), some (.int (nI q)), some (.int z), some (.int u)]) (st1 := [.int u, .int z]) (μ1 := μ) (vc := True) rfl (by decide +kernel) rfl trivial ?_
  refine pm_callS2 mi_X9_requireDays (ix := 154) (kc2 := 3) (ks2 := 18) (As := [.int z, .int u]) (rest := []) (c_X9_requireDays_no z u μ hl) cal_X9_requireDays lk9_154 (by decide +kernel) rfl (by decide +kernel) rfl rfl (Nat.le_of_ble_eq_true rfl) (by decide) (by decide) (fun E μ9 h9 => h9) ?_
  rintro _ _ h9; exact h9.elim
set_option maxHeartbeats 4000000 in
set_option maxRecDepth 100000 in
theorem c_X9_redirectPerson_full {g : Nat → Int32} {h q : Nat} {z u : Int32} (μ : pm_Mm) (hR : lr_Rel μ.1 1 g) (hG : lr_G g) (hh : h < lr_n g 35) (hq2 : q < lr_n g 2) (hl : lr_dys z u = true) (hn : lr_n g 167 = 12) : pm_CT mi_X9_redirectPerson [.ref 0, .int (nI h), .int (nI q), .int z, .int u] μ (fun _ _ => False) (fun E μ2 => E = "java/lang/UnsupportedOperationException" ∧ μ2 = pm_set μ 0 6 1) := by
  refine pm_CT_of (lo := [some (.ref 0), some (.int (nI h)), some (.int (nI q)), some (.int z), some (.int u)]) (by decide +kernel) rfl rfl (by intro v hv; simp at hv; rcases hv with rfl | rfl | rfl | rfl | rfl <;> rfl) (Nat.le_of_ble_eq_true rfl) rfl ?_
  have hm1 := lr_mh hG; have hm2 := lr_mw hG; have hm3 := lr_mp hG; have hm4 := lr_mr hG; have hm5 := lr_ma hG; have hm6 := lr_ml hG
  refine pm_bl [(.aload_n 0, 1, 0, 0, 0), (.iload_n 1, 1, 1, 0, 0)] (pc1 := 2) (lo1 := [some (.ref 0), some (.int (nI h)), some (.int (nI q)), some (.int z), some (.int u)]) (st1 := [.int (nI h), .ref 0]) (μ1 := μ) (vc := True) rfl (by decide +kernel) rfl trivial ?_
  refine pm_callV2 mi_X9_requirePerson (ix := 151) (b := 0) (ci := 9) (kc2 := 1) (ks2 := 6) (As := [.int (nI h)]) (rest := []) (c_X9_requirePerson (nI h) μ (by first | exact hR | exact hR1) hG (lr_be_1 hh (by omega))) cal_X9_requirePerson lk9_151 (by decide +kernel) rfl (by decide +kernel) rfl rfl rfl rfl (Nat.le_of_ble_eq_true rfl) (by decide) (by decide) (fun _ _ h9 => h9.elim) ?_
  rintro _ _ ⟨rfl, h9⟩; rw [h9]; clear h9
  show pm_V _ _ _ _ 5 _ [] _
  refine pm_bl [(.aload_n 0, 1, 0, 0, 0), (.iload_n 2, 1, 2, 0, 0)] (pc1 := 7) (lo1 := [some (.ref 0), some (.int (nI h)), some (.int (nI q)), some (.int z), some (.int u)]) (st1 := [.int (nI q), .ref 0]) (μ1 := μ) (vc := True) rfl (by decide +kernel) rfl trivial ?_
  refine pm_callV2 mi_X9_requireHouse (ix := 86) (b := 0) (ci := 9) (kc2 := 2) (ks2 := 12) (As := [.int (nI q)]) (rest := []) (c_X9_requireHouse (nI q) μ (by first | exact hR | exact hR1) hG (lr_be_1 hq2 (by omega))) cal_X9_requireHouse lk9_86 (by decide +kernel) rfl (by decide +kernel) rfl rfl rfl rfl (Nat.le_of_ble_eq_true rfl) (by decide) (by decide) (fun _ _ h9 => h9.elim) ?_
  rintro _ _ ⟨rfl, h9⟩; rw [h9]; clear h9
  show pm_V _ _ _ _ 10 _ [] _
  refine pm_bl [(.iload_n 3, 1, 3, 0, 0), (.iload 4, 2, 4, 0, 0)] (pc1 := 13) (lo1 := [some (.ref 0), some (.int (nI h)), some (.int (nI q)), some (.int z), some (.int u)]) (st1 := [.int u, .int z]) (μ1 := μ) (vc := True) rfl (by decide +kernel) rfl trivial ?_
  refine pm_callS2 mi_X9_requireDays (ix := 154) (kc2 := 3) (ks2 := 18) (As := [.int z, .int u]) (rest := []) (c_X9_requireDays z u μ hl) cal_X9_requireDays lk9_154 (by decide +kernel) rfl (by decide +kernel) rfl rfl (Nat.le_of_ble_eq_true rfl) (by decide) (by decide) (fun _ _ h9 => h9.elim) ?_
  rintro _ _ ⟨rfl, h9⟩; rw [h9]; clear h9
  show pm_V _ _ _ _ 16 _ [] _
  refine pm_bl [(.aload_n 0, 1, 0, 0, 0), (.getfield 10, 3, 9, 0, 0), (.getfield 158, 3, 5, 3, 0), (.getfield 162, 3, 7, 0, 0)] (pc1 := 26) (lo1 := [some (.ref 0), some (.int (nI h)), some (.int (nI q)), some (.int z), some (.int u)]) (st1 := [.int (μ.1 16 0)]) (μ1 := μ) (vc := True) rfl (by decide +kernel) rfl trivial ?_
  rw [lr_rNr hR, lr_gr hG]
  refine pm_bl [(.bipush 12, 2, 0, 0, 12)] (pc1 := 28) (lo1 := [some (.ref 0), some (.int (nI h)), some (.int (nI q)), some (.int z), some (.int u)]) (st1 := [.int 12, .int (nI (lr_n g 167))]) (μ1 := μ) (vc := True) rfl (by decide +kernel) rfl trivial ?_
  refine pm_icmp_lt (off := 8) 36 (by decide +kernel) (by decide) (fun (h9 : (nI (lr_n g 167)) < 12) => absurd h9 (by rw [hn]; decide)) (fun (h28 : ¬ ((nI (lr_n g 167)) < 12)) => ?_)
  refine pm_bl [(.aload_n 0, 1, 0, 0, 0), (.iconst 1, 1, 0, 0, 1)] (pc1 := 33) (lo1 := [some (.ref 0), some (.int (nI h)), some (.int (nI q)), some (.int z), some (.int u)]) (st1 := [.int 1, .ref 0]) (μ1 := μ) (vc := True) rfl (by decide +kernel) rfl trivial ?_
  refine pm_callV2 mi_X9_refuse (ix := 165) (b := 0) (ci := 9) (kc2 := 4) (ks2 := 24) (As := [.int 1]) (rest := []) (c_X9_refuse 1 μ) cal_X9_refuse lk9_165 (by decide +kernel) rfl (by decide +kernel) rfl rfl rfl rfl (Nat.le_of_ble_eq_true rfl) (by decide) (by decide) (fun E μ9 h9 => h9) ?_
  rintro _ _ h9; exact h9.elim
set_option maxHeartbeats 4000000 in
set_option maxRecDepth 100000 in
theorem c_X9_redirectPerson {g : Nat → Int32} {c n : Nat} {F : Nat → Nat → Int32} {h q : Nat} {z u : Int32} (μ : pm_Mm) (hR : lr_Rel μ.1 1 g) (hG : lr_G g) (hh : h < lr_n g 35) (hq2 : q < lr_n g 2) (hl : lr_dys z u = true) (hn : lr_n g 167 < 12) (hH : lr_Hs μ.1 c n F) : pm_CT mi_X9_redirectPerson [.ref 0, .int (nI h), .int (nI q), .int z, .int u] μ (fun v μ2 => v = some (.int (nI (lr_n g 167))) ∧ lr_fc μ μ2 ∧ lr_Rel μ2.1 1 (lr_gX7_add g 0 (nI h) (nI q) z u) ∧ lr_Hs μ2.1 (min (c + 1) 8) ((n + 1) % 8) (lr_psh c F g)) pm_NX := by
  refine pm_CT_of (lo := [some (.ref 0), some (.int (nI h)), some (.int (nI q)), some (.int z), some (.int u)]) (by decide +kernel) rfl rfl (by intro v hv; simp at hv; rcases hv with rfl | rfl | rfl | rfl | rfl <;> rfl) (Nat.le_of_ble_eq_true rfl) rfl ?_
  have hm1 := lr_mh hG; have hm2 := lr_mw hG; have hm3 := lr_mp hG; have hm4 := lr_mr hG; have hm5 := lr_ma hG; have hm6 := lr_ml hG
  refine pm_bl [(.aload_n 0, 1, 0, 0, 0), (.iload_n 1, 1, 1, 0, 0)] (pc1 := 2) (lo1 := [some (.ref 0), some (.int (nI h)), some (.int (nI q)), some (.int z), some (.int u)]) (st1 := [.int (nI h), .ref 0]) (μ1 := μ) (vc := True) rfl (by decide +kernel) rfl trivial ?_
  refine pm_callV2 mi_X9_requirePerson (ix := 151) (b := 0) (ci := 9) (kc2 := 1) (ks2 := 6) (As := [.int (nI h)]) (rest := []) (c_X9_requirePerson (nI h) μ (by first | exact hR | exact hR1) hG (lr_be_1 hh (by omega))) cal_X9_requirePerson lk9_151 (by decide +kernel) rfl (by decide +kernel) rfl rfl rfl rfl (Nat.le_of_ble_eq_true rfl) (by decide) (by decide) (fun _ _ h9 => h9.elim) ?_
  rintro _ _ ⟨rfl, h9⟩; rw [h9]; clear h9
  show pm_V _ _ _ _ 5 _ [] _
  refine pm_bl [(.aload_n 0, 1, 0, 0, 0), (.iload_n 2, 1, 2, 0, 0)] (pc1 := 7) (lo1 := [some (.ref 0), some (.int (nI h)), some (.int (nI q)), some (.int z), some (.int u)]) (st1 := [.int (nI q), .ref 0]) (μ1 := μ) (vc := True) rfl (by decide +kernel) rfl trivial ?_
  refine pm_callV2 mi_X9_requireHouse (ix := 86) (b := 0) (ci := 9) (kc2 := 2) (ks2 := 12) (As := [.int (nI q)]) (rest := []) (c_X9_requireHouse (nI q) μ (by first | exact hR | exact hR1) hG (lr_be_1 hq2 (by omega))) cal_X9_requireHouse lk9_86 (by decide +kernel) rfl (by decide +kernel) rfl rfl rfl rfl (Nat.le_of_ble_eq_true rfl) (by decide) (by decide) (fun _ _ h9 => h9.elim) ?_
  rintro _ _ ⟨rfl, h9⟩; rw [h9]; clear h9
  show pm_V _ _ _ _ 10 _ [] _
  refine pm_bl [(.iload_n 3, 1, 3, 0, 0), (.iload 4, 2, 4, 0, 0)] (pc1 := 13) (lo1 := [some (.ref 0), some (.int (nI h)), some (.int (nI q)), some (.int z), some (.int u)]) (st1 := [.int u, .int z]) (μ1 := μ) (vc := True) rfl (by decide +kernel) rfl trivial ?_
  refine pm_callS2 mi_X9_requireDays (ix := 154) (kc2 := 3) (ks2 := 18) (As := [.int z, .int u]) (rest := []) (c_X9_requireDays z u μ hl) cal_X9_requireDays lk9_154 (by decide +kernel) rfl (by decide +kernel) rfl rfl (Nat.le_of_ble_eq_true rfl) (by decide) (by decide) (fun _ _ h9 => h9.elim) ?_
  rintro _ _ ⟨rfl, h9⟩; rw [h9]; clear h9
  show pm_V _ _ _ _ 16 _ [] _
  refine pm_bl [(.aload_n 0, 1, 0, 0, 0), (.getfield 10, 3, 9, 0, 0), (.getfield 158, 3, 5, 3, 0), (.getfield 162, 3, 7, 0, 0)] (pc1 := 26) (lo1 := [some (.ref 0), some (.int (nI h)), some (.int (nI q)), some (.int z), some (.int u)]) (st1 := [.int (μ.1 16 0)]) (μ1 := μ) (vc := True) rfl (by decide +kernel) rfl trivial ?_
  rw [lr_rNr hR, lr_gr hG]
  refine pm_bl [(.bipush 12, 2, 0, 0, 12)] (pc1 := 28) (lo1 := [some (.ref 0), some (.int (nI h)), some (.int (nI q)), some (.int z), some (.int u)]) (st1 := [.int 12, .int (nI (lr_n g 167))]) (μ1 := μ) (vc := True) rfl (by decide +kernel) rfl trivial ?_
  refine pm_icmp_lt (off := 8) 36 (by decide +kernel) (by decide) (fun (h28 : (nI (lr_n g 167)) < 12) => ?_) (fun (h9 : ¬ ((nI (lr_n g 167)) < 12)) => absurd (nI_lt (b := 12) hn (by decide)) h9)
  refine pm_bl [(.aload_n 0, 1, 0, 0, 0), (.getfield 19, 3, 9, 1, 0), (.aload_n 0, 1, 0, 0, 0), (.getfield 10, 3, 9, 0, 0)] (pc1 := 44) (lo1 := [some (.ref 0), some (.int (nI h)), some (.int (nI q)), some (.int z), some (.int u)]) (st1 := [.ref 1, .ref 45]) (μ1 := μ) (vc := True) rfl (by decide +kernel) rfl trivial ?_
  refine pm_callV2 mi_X2_keep (ix := 78) (b := 45) (ci := 2) (kc2 := 3) (ks2 := 18) (As := [.ref 1]) (rest := []) (c_X2_keep (c := c) (n := n) μ hR hG.B hH.2.1 hH.2.2.2.1 hH.2.2.1 hH.1) cal_X2_keep lk9_78 (by decide +kernel) rfl (by decide +kernel) rfl rfl rfl rfl (Nat.le_of_ble_eq_true rfl) (by decide) (by decide) (fun _ _ h9 => h9.elim) ?_
  rintro _ μ1 ⟨rfl, h2k, hfk, hRk, hck, hnk⟩
  obtain ⟨hFC, hR1, hH1⟩ := lr_keep_ok hR hH h2k hfk hRk hck hnk
  show pm_V _ _ _ _ 47 _ [] _
  refine pm_bl [(.aload_n 0, 1, 0, 0, 0), (.getfield 10, 3, 9, 0, 0), (.getfield 158, 3, 5, 3, 0), (.iconst 0, 1, 0, 0, 0), (.iload_n 1, 1, 1, 0, 0), (.iload_n 2, 1, 2, 0, 0), (.iload_n 3, 1, 3, 0, 0), (.iload 4, 2, 4, 0, 0)] (pc1 := 60) (lo1 := [some (.ref 0), some (.int (nI h)), some (.int (nI q)), some (.int z), some (.int u)]) (st1 := [.int u, .int z, .int (nI q), .int (nI h), .int 0, .ref 16]) (μ1 := μ1) (vc := True) rfl (by decide +kernel) rfl trivial ?_
  refine pm_callV2 mi_X7_add (ix := 168) (b := 16) (ci := 7) (kc2 := 3) (ks2 := 18) (As := [.int 0, .int (nI h), .int (nI q), .int z, .int u]) (rest := []) (c_X7_add 0 (nI h) (nI q) z u μ1 hR1 hG hn) cal_X7_add lk9_168 (by decide +kernel) rfl (by decide +kernel) rfl rfl rfl rfl (Nat.le_of_ble_eq_true rfl) (by decide) (by decide) (fun _ _ h9 => h9.elim) ?_
  rintro _ μ3 ⟨rfl, hf3, hR3⟩
  show pm_V _ _ _ _ 63 _ [.int (nI (lr_n g 167))] _
  exact pm_iret (ty := .int) rfl rfl (by decide) (by decide) (by decide +kernel) (⟨rfl, hFC.tr hf3, hR3, hH1.fr (fun i hi => hf3.1 i (by omega))⟩)
set_option maxHeartbeats 4000000 in
set_option maxRecDepth 100000 in
theorem c_X9_redirectHouse_no1 {g : Nat → Int32} {x : Int32} (y z u : Int32) (μ : pm_Mm) (hR : lr_Rel μ.1 1 g) (hG : lr_G g) (hb : lr_be x (nI (lr_n g 2)) = false) : pm_CT mi_X9_redirectHouse [.ref 0, .int x, .int y, .int z, .int u] μ (fun _ _ => False) (fun E μ2 => E = "java/lang/IndexOutOfBoundsException" ∧ μ2 = μ) := by
  refine pm_CT_of (lo := [some (.ref 0), some (.int x), some (.int y), some (.int z), some (.int u)]) (by decide +kernel) rfl rfl (by intro v hv; simp at hv; rcases hv with rfl | rfl | rfl | rfl | rfl <;> rfl) (Nat.le_of_ble_eq_true rfl) rfl ?_
  have hm1 := lr_mh hG; have hm2 := lr_mw hG; have hm3 := lr_mp hG; have hm4 := lr_mr hG; have hm5 := lr_ma hG; have hm6 := lr_ml hG
  refine pm_bl [(.aload_n 0, 1, 0, 0, 0), (.iload_n 1, 1, 1, 0, 0)] (pc1 := 2) (lo1 := [some (.ref 0), some (.int x), some (.int y), some (.int z), some (.int u)]) (st1 := [.int x, .ref 0]) (μ1 := μ) (vc := True) rfl (by decide +kernel) rfl trivial ?_
  refine pm_callV2 mi_X9_requireHouse (ix := 86) (b := 0) (ci := 9) (kc2 := 1) (ks2 := 6) (As := [.int x]) (rest := []) (c_X9_requireHouse_no x μ hR hG hb) cal_X9_requireHouse lk9_86 (by decide +kernel) rfl (by decide +kernel) rfl rfl rfl rfl (Nat.le_of_ble_eq_true rfl) (by decide) (by decide) (fun E μ9 h9 => h9) ?_
  rintro _ _ h9; exact h9.elim
set_option maxHeartbeats 4000000 in
set_option maxRecDepth 100000 in
theorem c_X9_redirectHouse_no1b {g : Nat → Int32} {h : Nat} {x : Int32} (z u : Int32) (μ : pm_Mm) (hR : lr_Rel μ.1 1 g) (hG : lr_G g) (hh : h < lr_n g 2) (hb : lr_be x (nI (lr_n g 2)) = false) : pm_CT mi_X9_redirectHouse [.ref 0, .int (nI h), .int x, .int z, .int u] μ (fun _ _ => False) (fun E μ2 => E = "java/lang/IndexOutOfBoundsException" ∧ μ2 = μ) := by
  refine pm_CT_of (lo := [some (.ref 0), some (.int (nI h)), some (.int x), some (.int z), some (.int u)]) (by decide +kernel) rfl rfl (by intro v hv; simp at hv; rcases hv with rfl | rfl | rfl | rfl | rfl <;> rfl) (Nat.le_of_ble_eq_true rfl) rfl ?_
  have hm1 := lr_mh hG; have hm2 := lr_mw hG; have hm3 := lr_mp hG; have hm4 := lr_mr hG; have hm5 := lr_ma hG; have hm6 := lr_ml hG
  refine pm_bl [(.aload_n 0, 1, 0, 0, 0), (.iload_n 1, 1, 1, 0, 0)] (pc1 := 2) (lo1 := [some (.ref 0), some (.int (nI h)), some (.int x), some (.int z), some (.int u)]) (st1 := [.int (nI h), .ref 0]) (μ1 := μ) (vc := True) rfl (by decide +kernel) rfl trivial ?_
  refine pm_callV2 mi_X9_requireHouse (ix := 86) (b := 0) (ci := 9) (kc2 := 1) (ks2 := 6) (As := [.int (nI h)]) (rest := []) (c_X9_requireHouse (nI h) μ (by first | exact hR | exact hR1) hG (lr_be_1 hh (by omega))) cal_X9_requireHouse lk9_86 (by decide +kernel) rfl (by decide +kernel) rfl rfl rfl rfl (Nat.le_of_ble_eq_true rfl) (by decide) (by decide) (fun _ _ h9 => h9.elim) ?_
  rintro _ _ ⟨rfl, h9⟩; rw [h9]; clear h9
  show pm_V _ _ _ _ 5 _ [] _
  refine pm_bl [(.aload_n 0, 1, 0, 0, 0), (.iload_n 2, 1, 2, 0, 0)] (pc1 := 7) (lo1 := [some (.ref 0), some (.int (nI h)), some (.int x), some (.int z), some (.int u)]) (st1 := [.int x, .ref 0]) (μ1 := μ) (vc := True) rfl (by decide +kernel) rfl trivial ?_
  refine pm_callV2 mi_X9_requireHouse (ix := 86) (b := 0) (ci := 9) (kc2 := 2) (ks2 := 12) (As := [.int x]) (rest := []) (c_X9_requireHouse_no x μ hR hG hb) cal_X9_requireHouse lk9_86 (by decide +kernel) rfl (by decide +kernel) rfl rfl rfl rfl (Nat.le_of_ble_eq_true rfl) (by decide) (by decide) (fun E μ9 h9 => h9) ?_
  rintro _ _ h9; exact h9.elim
set_option maxHeartbeats 4000000 in
set_option maxRecDepth 100000 in
theorem c_X9_redirectHouse_no2 {g : Nat → Int32} {h q : Nat} {z u : Int32} (μ : pm_Mm) (hR : lr_Rel μ.1 1 g) (hG : lr_G g) (hh : h < lr_n g 2) (hq2 : q < lr_n g 2) (hl : lr_dys z u = false) : pm_CT mi_X9_redirectHouse [.ref 0, .int (nI h), .int (nI q), .int z, .int u] μ (fun _ _ => False) (fun E μ2 => E = "java/lang/IllegalArgumentException" ∧ μ2 = μ) := by
  refine pm_CT_of (lo := [some (.ref 0), some (.int (nI h)), some (.int (nI q)), some (.int z), some (.int u)]) (by decide +kernel) rfl rfl (by intro v hv; simp at hv; rcases hv with rfl | rfl | rfl | rfl | rfl <;> rfl) (Nat.le_of_ble_eq_true rfl) rfl ?_
  have hm1 := lr_mh hG; have hm2 := lr_mw hG; have hm3 := lr_mp hG; have hm4 := lr_mr hG; have hm5 := lr_ma hG; have hm6 := lr_ml hG
  refine pm_bl [(.aload_n 0, 1, 0, 0, 0), (.iload_n 1, 1, 1, 0, 0)] (pc1 := 2) (lo1 := [some (.ref 0), some (.int (nI h)), some (.int (nI q)), some (.int z), some (.int u)]) (st1 := [.int (nI h), .ref 0]) (μ1 := μ) (vc := True) rfl (by decide +kernel) rfl trivial ?_
  refine pm_callV2 mi_X9_requireHouse (ix := 86) (b := 0) (ci := 9) (kc2 := 1) (ks2 := 6) (As := [.int (nI h)]) (rest := []) (c_X9_requireHouse (nI h) μ (by first | exact hR | exact hR1) hG (lr_be_1 hh (by omega))) cal_X9_requireHouse lk9_86 (by decide +kernel) rfl (by decide +kernel) rfl rfl rfl rfl (Nat.le_of_ble_eq_true rfl) (by decide) (by decide) (fun _ _ h9 => h9.elim) ?_
  rintro _ _ ⟨rfl, h9⟩; rw [h9]; clear h9
  show pm_V _ _ _ _ 5 _ [] _
  refine pm_bl [(.aload_n 0, 1, 0, 0, 0), (.iload_n 2, 1, 2, 0, 0)] (pc1 := 7) (lo1 := [some (.ref 0), some (.int (nI h)), some (.int (nI q)), some (.int z), some (.int u)]) (st1 := [.int (nI q), .ref 0]) (μ1 := μ) (vc := True) rfl (by decide +kernel) rfl trivial ?_
  refine pm_callV2 mi_X9_requireHouse (ix := 86) (b := 0) (ci := 9) (kc2 := 2) (ks2 := 12) (As := [.int (nI q)]) (rest := []) (c_X9_requireHouse (nI q) μ (by first | exact hR | exact hR1) hG (lr_be_1 hq2 (by omega))) cal_X9_requireHouse lk9_86 (by decide +kernel) rfl (by decide +kernel) rfl rfl rfl rfl (Nat.le_of_ble_eq_true rfl) (by decide) (by decide) (fun _ _ h9 => h9.elim) ?_
  rintro _ _ ⟨rfl, h9⟩; rw [h9]; clear h9
  show pm_V _ _ _ _ 10 _ [] _
  refine pm_bl [(.iload_n 3, 1, 3, 0, 0), (.iload 4, 2, 4, 0, 0)] (pc1 := 13) (lo1 := [some (.ref 0), some (.int (nI h)), some (.int (nI q)), some (.int z), some (.int u)]) (st1 := [.int u, .int z]) (μ1 := μ) (vc := True) rfl (by decide +kernel) rfl trivial ?_
  refine pm_callS2 mi_X9_requireDays (ix := 154) (kc2 := 3) (ks2 := 18) (As := [.int z, .int u]) (rest := []) (c_X9_requireDays_no z u μ hl) cal_X9_requireDays lk9_154 (by decide +kernel) rfl (by decide +kernel) rfl rfl (Nat.le_of_ble_eq_true rfl) (by decide) (by decide) (fun E μ9 h9 => h9) ?_
  rintro _ _ h9; exact h9.elim
set_option maxHeartbeats 4000000 in
set_option maxRecDepth 100000 in
theorem c_X9_redirectHouse_full {g : Nat → Int32} {h q : Nat} {z u : Int32} (μ : pm_Mm) (hR : lr_Rel μ.1 1 g) (hG : lr_G g) (hh : h < lr_n g 2) (hq2 : q < lr_n g 2) (hl : lr_dys z u = true) (hn : lr_n g 167 = 12) : pm_CT mi_X9_redirectHouse [.ref 0, .int (nI h), .int (nI q), .int z, .int u] μ (fun _ _ => False) (fun E μ2 => E = "java/lang/UnsupportedOperationException" ∧ μ2 = pm_set μ 0 6 1) := by
  refine pm_CT_of (lo := [some (.ref 0), some (.int (nI h)), some (.int (nI q)), some (.int z), some (.int u)]) (by decide +kernel) rfl rfl (by intro v hv; simp at hv; rcases hv with rfl | rfl | rfl | rfl | rfl <;> rfl) (Nat.le_of_ble_eq_true rfl) rfl ?_
  have hm1 := lr_mh hG; have hm2 := lr_mw hG; have hm3 := lr_mp hG; have hm4 := lr_mr hG; have hm5 := lr_ma hG; have hm6 := lr_ml hG
  refine pm_bl [(.aload_n 0, 1, 0, 0, 0), (.iload_n 1, 1, 1, 0, 0)] (pc1 := 2) (lo1 := [some (.ref 0), some (.int (nI h)), some (.int (nI q)), some (.int z), some (.int u)]) (st1 := [.int (nI h), .ref 0]) (μ1 := μ) (vc := True) rfl (by decide +kernel) rfl trivial ?_
  refine pm_callV2 mi_X9_requireHouse (ix := 86) (b := 0) (ci := 9) (kc2 := 1) (ks2 := 6) (As := [.int (nI h)]) (rest := []) (c_X9_requireHouse (nI h) μ (by first | exact hR | exact hR1) hG (lr_be_1 hh (by omega))) cal_X9_requireHouse lk9_86 (by decide +kernel) rfl (by decide +kernel) rfl rfl rfl rfl (Nat.le_of_ble_eq_true rfl) (by decide) (by decide) (fun _ _ h9 => h9.elim) ?_
  rintro _ _ ⟨rfl, h9⟩; rw [h9]; clear h9
  show pm_V _ _ _ _ 5 _ [] _
  refine pm_bl [(.aload_n 0, 1, 0, 0, 0), (.iload_n 2, 1, 2, 0, 0)] (pc1 := 7) (lo1 := [some (.ref 0), some (.int (nI h)), some (.int (nI q)), some (.int z), some (.int u)]) (st1 := [.int (nI q), .ref 0]) (μ1 := μ) (vc := True) rfl (by decide +kernel) rfl trivial ?_
  refine pm_callV2 mi_X9_requireHouse (ix := 86) (b := 0) (ci := 9) (kc2 := 2) (ks2 := 12) (As := [.int (nI q)]) (rest := []) (c_X9_requireHouse (nI q) μ (by first | exact hR | exact hR1) hG (lr_be_1 hq2 (by omega))) cal_X9_requireHouse lk9_86 (by decide +kernel) rfl (by decide +kernel) rfl rfl rfl rfl (Nat.le_of_ble_eq_true rfl) (by decide) (by decide) (fun _ _ h9 => h9.elim) ?_
  rintro _ _ ⟨rfl, h9⟩; rw [h9]; clear h9
  show pm_V _ _ _ _ 10 _ [] _
  refine pm_bl [(.iload_n 3, 1, 3, 0, 0), (.iload 4, 2, 4, 0, 0)] (pc1 := 13) (lo1 := [some (.ref 0), some (.int (nI h)), some (.int (nI q)), some (.int z), some (.int u)]) (st1 := [.int u, .int z]) (μ1 := μ) (vc := True) rfl (by decide +kernel) rfl trivial ?_
  refine pm_callS2 mi_X9_requireDays (ix := 154) (kc2 := 3) (ks2 := 18) (As := [.int z, .int u]) (rest := []) (c_X9_requireDays z u μ hl) cal_X9_requireDays lk9_154 (by decide +kernel) rfl (by decide +kernel) rfl rfl (Nat.le_of_ble_eq_true rfl) (by decide) (by decide) (fun _ _ h9 => h9.elim) ?_
  rintro _ _ ⟨rfl, h9⟩; rw [h9]; clear h9
  show pm_V _ _ _ _ 16 _ [] _
  refine pm_bl [(.aload_n 0, 1, 0, 0, 0), (.getfield 10, 3, 9, 0, 0), (.getfield 158, 3, 5, 3, 0), (.getfield 162, 3, 7, 0, 0)] (pc1 := 26) (lo1 := [some (.ref 0), some (.int (nI h)), some (.int (nI q)), some (.int z), some (.int u)]) (st1 := [.int (μ.1 16 0)]) (μ1 := μ) (vc := True) rfl (by decide +kernel) rfl trivial ?_
  rw [lr_rNr hR, lr_gr hG]
  refine pm_bl [(.bipush 12, 2, 0, 0, 12)] (pc1 := 28) (lo1 := [some (.ref 0), some (.int (nI h)), some (.int (nI q)), some (.int z), some (.int u)]) (st1 := [.int 12, .int (nI (lr_n g 167))]) (μ1 := μ) (vc := True) rfl (by decide +kernel) rfl trivial ?_
  refine pm_icmp_lt (off := 8) 36 (by decide +kernel) (by decide) (fun (h9 : (nI (lr_n g 167)) < 12) => absurd h9 (by rw [hn]; decide)) (fun (h28 : ¬ ((nI (lr_n g 167)) < 12)) => ?_)
  refine pm_bl [(.aload_n 0, 1, 0, 0, 0), (.iconst 1, 1, 0, 0, 1)] (pc1 := 33) (lo1 := [some (.ref 0), some (.int (nI h)), some (.int (nI q)), some (.int z), some (.int u)]) (st1 := [.int 1, .ref 0]) (μ1 := μ) (vc := True) rfl (by decide +kernel) rfl trivial ?_
  refine pm_callV2 mi_X9_refuse (ix := 165) (b := 0) (ci := 9) (kc2 := 4) (ks2 := 24) (As := [.int 1]) (rest := []) (c_X9_refuse 1 μ) cal_X9_refuse lk9_165 (by decide +kernel) rfl (by decide +kernel) rfl rfl rfl rfl (Nat.le_of_ble_eq_true rfl) (by decide) (by decide) (fun E μ9 h9 => h9) ?_
  rintro _ _ h9; exact h9.elim
set_option maxHeartbeats 4000000 in
set_option maxRecDepth 100000 in
theorem c_X9_redirectHouse_r {g : Nat → Int32} {h q : Nat} {z u : Int32} (μ : pm_Mm) (hR : lr_Rel μ.1 1 g) (hG : lr_G g) (hh : h < lr_n g 2) (hq2 : q < lr_n g 2) (hl : lr_dys z u = true) (hn : lr_n g 167 < 12) (hG2 : lr_G (lr_gX7_add g 1 (nI h) (nI q) z u)) (hr : lr_crw (lr_gX7_add g 1 (nI h) (nI q) z u) (-1) = true) : pm_CT mi_X9_redirectHouse [.ref 0, .int (nI h), .int (nI q), .int z, .int u] μ (fun _ _ => False) (fun E μ2 => E = "java/lang/UnsupportedOperationException" ∧ ∃ M, lr_fr μ M ∧ lr_Rel M.1 1 g ∧ μ2 = pm_set M 0 6 2) := by
  refine pm_CT_of (lo := [some (.ref 0), some (.int (nI h)), some (.int (nI q)), some (.int z), some (.int u)]) (by decide +kernel) rfl rfl (by intro v hv; simp at hv; rcases hv with rfl | rfl | rfl | rfl | rfl <;> rfl) (Nat.le_of_ble_eq_true rfl) rfl ?_
  have hm1 := lr_mh hG; have hm2 := lr_mw hG; have hm3 := lr_mp hG; have hm4 := lr_mr hG; have hm5 := lr_ma hG; have hm6 := lr_ml hG
  refine pm_bl [(.aload_n 0, 1, 0, 0, 0), (.iload_n 1, 1, 1, 0, 0)] (pc1 := 2) (lo1 := [some (.ref 0), some (.int (nI h)), some (.int (nI q)), some (.int z), some (.int u)]) (st1 := [.int (nI h), .ref 0]) (μ1 := μ) (vc := True) rfl (by decide +kernel) rfl trivial ?_
  refine pm_callV2 mi_X9_requireHouse (ix := 86) (b := 0) (ci := 9) (kc2 := 1) (ks2 := 6) (As := [.int (nI h)]) (rest := []) (c_X9_requireHouse (nI h) μ (by first | exact hR | exact hR1) hG (lr_be_1 hh (by omega))) cal_X9_requireHouse lk9_86 (by decide +kernel) rfl (by decide +kernel) rfl rfl rfl rfl (Nat.le_of_ble_eq_true rfl) (by decide) (by decide) (fun _ _ h9 => h9.elim) ?_
  rintro _ _ ⟨rfl, h9⟩; rw [h9]; clear h9
  show pm_V _ _ _ _ 5 _ [] _
  refine pm_bl [(.aload_n 0, 1, 0, 0, 0), (.iload_n 2, 1, 2, 0, 0)] (pc1 := 7) (lo1 := [some (.ref 0), some (.int (nI h)), some (.int (nI q)), some (.int z), some (.int u)]) (st1 := [.int (nI q), .ref 0]) (μ1 := μ) (vc := True) rfl (by decide +kernel) rfl trivial ?_
  refine pm_callV2 mi_X9_requireHouse (ix := 86) (b := 0) (ci := 9) (kc2 := 2) (ks2 := 12) (As := [.int (nI q)]) (rest := []) (c_X9_requireHouse (nI q) μ (by first | exact hR | exact hR1) hG (lr_be_1 hq2 (by omega))) cal_X9_requireHouse lk9_86 (by decide +kernel) rfl (by decide +kernel) rfl rfl rfl rfl (Nat.le_of_ble_eq_true rfl) (by decide) (by decide) (fun _ _ h9 => h9.elim) ?_
  rintro _ _ ⟨rfl, h9⟩; rw [h9]; clear h9
  show pm_V _ _ _ _ 10 _ [] _
  refine pm_bl [(.iload_n 3, 1, 3, 0, 0), (.iload 4, 2, 4, 0, 0)] (pc1 := 13) (lo1 := [some (.ref 0), some (.int (nI h)), some (.int (nI q)), some (.int z), some (.int u)]) (st1 := [.int u, .int z]) (μ1 := μ) (vc := True) rfl (by decide +kernel) rfl trivial ?_
  refine pm_callS2 mi_X9_requireDays (ix := 154) (kc2 := 3) (ks2 := 18) (As := [.int z, .int u]) (rest := []) (c_X9_requireDays z u μ hl) cal_X9_requireDays lk9_154 (by decide +kernel) rfl (by decide +kernel) rfl rfl (Nat.le_of_ble_eq_true rfl) (by decide) (by decide) (fun _ _ h9 => h9.elim) ?_
  rintro _ _ ⟨rfl, h9⟩; rw [h9]; clear h9
  show pm_V _ _ _ _ 16 _ [] _
  refine pm_bl [(.aload_n 0, 1, 0, 0, 0), (.getfield 10, 3, 9, 0, 0), (.getfield 158, 3, 5, 3, 0), (.getfield 162, 3, 7, 0, 0)] (pc1 := 26) (lo1 := [some (.ref 0), some (.int (nI h)), some (.int (nI q)), some (.int z), some (.int u)]) (st1 := [.int (μ.1 16 0)]) (μ1 := μ) (vc := True) rfl (by decide +kernel) rfl trivial ?_
  rw [lr_rNr hR, lr_gr hG]
  refine pm_bl [(.bipush 12, 2, 0, 0, 12)] (pc1 := 28) (lo1 := [some (.ref 0), some (.int (nI h)), some (.int (nI q)), some (.int z), some (.int u)]) (st1 := [.int 12, .int (nI (lr_n g 167))]) (μ1 := μ) (vc := True) rfl (by decide +kernel) rfl trivial ?_
  refine pm_icmp_lt (off := 8) 36 (by decide +kernel) (by decide) (fun (h28 : (nI (lr_n g 167)) < 12) => ?_) (fun (h9 : ¬ ((nI (lr_n g 167)) < 12)) => absurd (nI_lt (b := 12) hn (by decide)) h9)
  refine pm_bl [(.aload_n 0, 1, 0, 0, 0), (.getfield 10, 3, 9, 0, 0), (.getfield 158, 3, 5, 3, 0), (.iload_n 1, 1, 1, 0, 0), (.iload_n 2, 1, 2, 0, 0), (.iload_n 3, 1, 3, 0, 0), (.iload 4, 2, 4, 0, 0)] (pc1 := 48) (lo1 := [some (.ref 0), some (.int (nI h)), some (.int (nI q)), some (.int z), some (.int u)]) (st1 := [.int u, .int z, .int (nI q), .int (nI h), .ref 16]) (μ1 := μ) (vc := True) rfl (by decide +kernel) rfl trivial ?_
  refine pm_callV2 mi_X7_wouldLeadRoundWith (ix := 169) (b := 16) (ci := 7) (kc2 := 3) (ks2 := 18) (As := [.int (nI h), .int (nI q), .int z, .int u]) (rest := []) (c_X7_wouldLeadRoundWith (nI h) (nI q) z u μ hR hG hn hG2) cal_X7_wouldLeadRoundWith lk9_169 (by decide +kernel) rfl (by decide +kernel) rfl rfl rfl rfl (Nat.le_of_ble_eq_true rfl) (by decide) (by decide) (fun _ _ h9 => h9.elim) ?_
  rintro _ μ0 ⟨rfl, hf0, hR0⟩
  show pm_V _ _ _ _ 51 _ [.int (lr_b (lr_crw (lr_gX7_add g 1 (nI h) (nI q) z u) (-1)))] _
  refine pm_ifb_eq (off := 8) 59 (by decide +kernel) (by decide) (fun (h9 : (lr_crw (lr_gX7_add g 1 (nI h) (nI q) z u) (-1)) = false) => absurd (hr.symm.trans h9) (by decide)) (fun (h51 : (lr_crw (lr_gX7_add g 1 (nI h) (nI q) z u) (-1)) = true) => ?_)
  refine pm_bl [(.aload_n 0, 1, 0, 0, 0), (.iconst 2, 1, 0, 0, 2)] (pc1 := 56) (lo1 := [some (.ref 0), some (.int (nI h)), some (.int (nI q)), some (.int z), some (.int u)]) (st1 := [.int 2, .ref 0]) (μ1 := μ0) (vc := True) rfl (by decide +kernel) rfl trivial ?_
  refine pm_callV2 mi_X9_refuse (ix := 165) (b := 0) (ci := 9) (kc2 := 4) (ks2 := 24) (As := [.int 2]) (rest := []) (c_X9_refuse 2 μ0) cal_X9_refuse lk9_165 (by decide +kernel) rfl (by decide +kernel) rfl rfl rfl rfl (Nat.le_of_ble_eq_true rfl) (by decide) (by decide) (fun E μ9 h9 => ⟨h9.1, μ0, hf0, hR0, h9.2⟩) ?_
  rintro _ _ h9; exact h9.elim
set_option maxHeartbeats 4000000 in
set_option maxRecDepth 100000 in
theorem c_X9_redirectHouse {g : Nat → Int32} {c n : Nat} {F : Nat → Nat → Int32} {h q : Nat} {z u : Int32} (μ : pm_Mm) (hR : lr_Rel μ.1 1 g) (hG : lr_G g) (hh : h < lr_n g 2) (hq2 : q < lr_n g 2) (hl : lr_dys z u = true) (hn : lr_n g 167 < 12) (hG2 : lr_G (lr_gX7_add g 1 (nI h) (nI q) z u)) (hr : lr_crw (lr_gX7_add g 1 (nI h) (nI q) z u) (-1) = false) (hH : lr_Hs μ.1 c n F) : pm_CT mi_X9_redirectHouse [.ref 0, .int (nI h), .int (nI q), .int z, .int u] μ (fun v μ2 => v = some (.int (nI (lr_n g 167))) ∧ lr_fc μ μ2 ∧ lr_Rel μ2.1 1 (lr_gX7_add g 1 (nI h) (nI q) z u) ∧ lr_Hs μ2.1 (min (c + 1) 8) ((n + 1) % 8) (lr_psh c F g)) pm_NX := by
  refine pm_CT_of (lo := [some (.ref 0), some (.int (nI h)), some (.int (nI q)), some (.int z), some (.int u)]) (by decide +kernel) rfl rfl (by intro v hv; simp at hv; rcases hv with rfl | rfl | rfl | rfl | rfl <;> rfl) (Nat.le_of_ble_eq_true rfl) rfl ?_
  have hm1 := lr_mh hG; have hm2 := lr_mw hG; have hm3 := lr_mp hG; have hm4 := lr_mr hG; have hm5 := lr_ma hG; have hm6 := lr_ml hG
  refine pm_bl [(.aload_n 0, 1, 0, 0, 0), (.iload_n 1, 1, 1, 0, 0)] (pc1 := 2) (lo1 := [some (.ref 0), some (.int (nI h)), some (.int (nI q)), some (.int z), some (.int u)]) (st1 := [.int (nI h), .ref 0]) (μ1 := μ) (vc := True) rfl (by decide +kernel) rfl trivial ?_
  refine pm_callV2 mi_X9_requireHouse (ix := 86) (b := 0) (ci := 9) (kc2 := 1) (ks2 := 6) (As := [.int (nI h)]) (rest := []) (c_X9_requireHouse (nI h) μ (by first | exact hR | exact hR1) hG (lr_be_1 hh (by omega))) cal_X9_requireHouse lk9_86 (by decide +kernel) rfl (by decide +kernel) rfl rfl rfl rfl (Nat.le_of_ble_eq_true rfl) (by decide) (by decide) (fun _ _ h9 => h9.elim) ?_
  rintro _ _ ⟨rfl, h9⟩; rw [h9]; clear h9
  show pm_V _ _ _ _ 5 _ [] _
  refine pm_bl [(.aload_n 0, 1, 0, 0, 0), (.iload_n 2, 1, 2, 0, 0)] (pc1 := 7) (lo1 := [some (.ref 0), some (.int (nI h)), some (.int (nI q)), some (.int z), some (.int u)]) (st1 := [.int (nI q), .ref 0]) (μ1 := μ) (vc := True) rfl (by decide +kernel) rfl trivial ?_
  refine pm_callV2 mi_X9_requireHouse (ix := 86) (b := 0) (ci := 9) (kc2 := 2) (ks2 := 12) (As := [.int (nI q)]) (rest := []) (c_X9_requireHouse (nI q) μ (by first | exact hR | exact hR1) hG (lr_be_1 hq2 (by omega))) cal_X9_requireHouse lk9_86 (by decide +kernel) rfl (by decide +kernel) rfl rfl rfl rfl (Nat.le_of_ble_eq_true rfl) (by decide) (by decide) (fun _ _ h9 => h9.elim) ?_
  rintro _ _ ⟨rfl, h9⟩; rw [h9]; clear h9
  show pm_V _ _ _ _ 10 _ [] _
  refine pm_bl [(.iload_n 3, 1, 3, 0, 0), (.iload 4, 2, 4, 0, 0)] (pc1 := 13) (lo1 := [some (.ref 0), some (.int (nI h)), some (.int (nI q)), some (.int z), some (.int u)]) (st1 := [.int u, .int z]) (μ1 := μ) (vc := True) rfl (by decide +kernel) rfl trivial ?_
  refine pm_callS2 mi_X9_requireDays (ix := 154) (kc2 := 3) (ks2 := 18) (As := [.int z, .int u]) (rest := []) (c_X9_requireDays z u μ hl) cal_X9_requireDays lk9_154 (by decide +kernel) rfl (by decide +kernel) rfl rfl (Nat.le_of_ble_eq_true rfl) (by decide) (by decide) (fun _ _ h9 => h9.elim) ?_
  rintro _ _ ⟨rfl, h9⟩; rw [h9]; clear h9
  show pm_V _ _ _ _ 16 _ [] _
  refine pm_bl [(.aload_n 0, 1, 0, 0, 0), (.getfield 10, 3, 9, 0, 0), (.getfield 158, 3, 5, 3, 0), (.getfield 162, 3, 7, 0, 0)] (pc1 := 26) (lo1 := [some (.ref 0), some (.int (nI h)), some (.int (nI q)), some (.int z), some (.int u)]) (st1 := [.int (μ.1 16 0)]) (μ1 := μ) (vc := True) rfl (by decide +kernel) rfl trivial ?_
  rw [lr_rNr hR, lr_gr hG]
  refine pm_bl [(.bipush 12, 2, 0, 0, 12)] (pc1 := 28) (lo1 := [some (.ref 0), some (.int (nI h)), some (.int (nI q)), some (.int z), some (.int u)]) (st1 := [.int 12, .int (nI (lr_n g 167))]) (μ1 := μ) (vc := True) rfl (by decide +kernel) rfl trivial ?_
  refine pm_icmp_lt (off := 8) 36 (by decide +kernel) (by decide) (fun (h28 : (nI (lr_n g 167)) < 12) => ?_) (fun (h9 : ¬ ((nI (lr_n g 167)) < 12)) => absurd (nI_lt (b := 12) hn (by decide)) h9)
  refine pm_bl [(.aload_n 0, 1, 0, 0, 0), (.getfield 10, 3, 9, 0, 0), (.getfield 158, 3, 5, 3, 0), (.iload_n 1, 1, 1, 0, 0), (.iload_n 2, 1, 2, 0, 0), (.iload_n 3, 1, 3, 0, 0), (.iload 4, 2, 4, 0, 0)] (pc1 := 48) (lo1 := [some (.ref 0), some (.int (nI h)), some (.int (nI q)), some (.int z), some (.int u)]) (st1 := [.int u, .int z, .int (nI q), .int (nI h), .ref 16]) (μ1 := μ) (vc := True) rfl (by decide +kernel) rfl trivial ?_
  refine pm_callV2 mi_X7_wouldLeadRoundWith (ix := 169) (b := 16) (ci := 7) (kc2 := 3) (ks2 := 18) (As := [.int (nI h), .int (nI q), .int z, .int u]) (rest := []) (c_X7_wouldLeadRoundWith (nI h) (nI q) z u μ hR hG hn hG2) cal_X7_wouldLeadRoundWith lk9_169 (by decide +kernel) rfl (by decide +kernel) rfl rfl rfl rfl (Nat.le_of_ble_eq_true rfl) (by decide) (by decide) (fun _ _ h9 => h9.elim) ?_
  rintro _ μ0 ⟨rfl, hf0, hR0⟩
  have hH0 := hH.fr (fun i hi => hf0.1 i (by omega))
  show pm_V _ _ _ _ 51 _ [.int (lr_b (lr_crw (lr_gX7_add g 1 (nI h) (nI q) z u) (-1)))] _
  refine pm_ifb_eq (off := 8) 59 (by decide +kernel) (by decide) (fun (h51 : (lr_crw (lr_gX7_add g 1 (nI h) (nI q) z u) (-1)) = false) => ?_) (fun (h9 : (lr_crw (lr_gX7_add g 1 (nI h) (nI q) z u) (-1)) = true) => absurd (hr.symm.trans h9) (by decide))
  refine pm_bl [(.aload_n 0, 1, 0, 0, 0), (.getfield 19, 3, 9, 1, 0), (.aload_n 0, 1, 0, 0, 0), (.getfield 10, 3, 9, 0, 0)] (pc1 := 67) (lo1 := [some (.ref 0), some (.int (nI h)), some (.int (nI q)), some (.int z), some (.int u)]) (st1 := [.ref 1, .ref 45]) (μ1 := μ0) (vc := True) rfl (by decide +kernel) rfl trivial ?_
  refine pm_callV2 mi_X2_keep (ix := 78) (b := 45) (ci := 2) (kc2 := 3) (ks2 := 18) (As := [.ref 1]) (rest := []) (c_X2_keep (c := c) (n := n) μ0 hR0 hG.B hH0.2.1 hH0.2.2.2.1 hH0.2.2.1 hH0.1) cal_X2_keep lk9_78 (by decide +kernel) rfl (by decide +kernel) rfl rfl rfl rfl (Nat.le_of_ble_eq_true rfl) (by decide) (by decide) (fun _ _ h9 => h9.elim) ?_
  rintro _ μ1 ⟨rfl, h2k, hfk, hRk, hck, hnk⟩
  obtain ⟨hFC, hR1, hH1⟩ := lr_keep_ok hR0 hH0 h2k hfk hRk hck hnk
  show pm_V _ _ _ _ 70 _ [] _
  refine pm_bl [(.aload_n 0, 1, 0, 0, 0), (.getfield 10, 3, 9, 0, 0), (.getfield 158, 3, 5, 3, 0), (.iconst 1, 1, 0, 0, 1), (.iload_n 1, 1, 1, 0, 0), (.iload_n 2, 1, 2, 0, 0), (.iload_n 3, 1, 3, 0, 0), (.iload 4, 2, 4, 0, 0)] (pc1 := 83) (lo1 := [some (.ref 0), some (.int (nI h)), some (.int (nI q)), some (.int z), some (.int u)]) (st1 := [.int u, .int z, .int (nI q), .int (nI h), .int 1, .ref 16]) (μ1 := μ1) (vc := True) rfl (by decide +kernel) rfl trivial ?_
  refine pm_callV2 mi_X7_add (ix := 168) (b := 16) (ci := 7) (kc2 := 3) (ks2 := 18) (As := [.int 1, .int (nI h), .int (nI q), .int z, .int u]) (rest := []) (c_X7_add 1 (nI h) (nI q) z u μ1 hR1 hG hn) cal_X7_add lk9_168 (by decide +kernel) rfl (by decide +kernel) rfl rfl rfl rfl (Nat.le_of_ble_eq_true rfl) (by decide) (by decide) (fun _ _ h9 => h9.elim) ?_
  rintro _ μ3 ⟨rfl, hf3, hR3⟩
  show pm_V _ _ _ _ 86 _ [.int (nI (lr_n g 167))] _
  exact pm_iret (ty := .int) rfl rfl (by decide) (by decide) (by decide +kernel) (⟨rfl, (show lr_fc μ μ1 from ⟨fun i hi => (hFC.1 i hi).trans (hf0.1 i (by omega)), hFC.2.trans hf0.2⟩).tr hf3, hR3, hH1.fr (fun i hi => hf3.1 i (by omega))⟩)
set_option maxHeartbeats 4000000 in
set_option maxRecDepth 100000 in
theorem c_X9_dropRedirect_no1 {g : Nat → Int32} {x : Int32} (μ : pm_Mm) (hR : lr_Rel μ.1 1 g) (hG : lr_G g) (hb : lr_be x (nI (lr_n g 167)) = false) : pm_CT mi_X9_dropRedirect [.ref 0, .int x] μ (fun _ _ => False) (fun E μ2 => E = "java/lang/IndexOutOfBoundsException" ∧ μ2 = μ) := by
  refine pm_CT_of (lo := [some (.ref 0), some (.int x)]) (by decide +kernel) rfl rfl (by intro v hv; simp at hv; rcases hv with rfl | rfl <;> rfl) (Nat.le_of_ble_eq_true rfl) rfl ?_
  have hm1 := lr_mh hG; have hm2 := lr_mw hG; have hm3 := lr_mp hG; have hm4 := lr_mr hG; have hm5 := lr_ma hG; have hm6 := lr_ml hG
  refine pm_bl [(.iload_n 1, 1, 1, 0, 0), (.aload_n 0, 1, 0, 0, 0), (.getfield 10, 3, 9, 0, 0), (.getfield 158, 3, 5, 3, 0), (.getfield 162, 3, 7, 0, 0)] (pc1 := 11) (lo1 := [some (.ref 0), some (.int x)]) (st1 := [.int (μ.1 16 0), .int x]) (μ1 := μ) (vc := True) rfl (by decide +kernel) rfl trivial ?_
  rw [lr_rNr hR, lr_gr hG]
  refine pm_callS2 mi_X9_isBelow (ix := 130) (kc2 := 0) (ks2 := 0) (As := [.int x, .int (nI (lr_n g 167))]) (rest := []) (c_X9_isBelow x (nI (lr_n g 167)) μ) cal_X9_isBelow lk9_130 (by decide +kernel) rfl (by decide +kernel) rfl rfl (Nat.le_of_ble_eq_true rfl) (by decide) (by decide) (fun _ _ h9 => h9.elim) ?_
  rintro _ _ ⟨rfl, h9⟩; rw [h9]; clear h9
  show pm_V _ _ _ _ 14 _ [.int (lr_b (lr_be x (nI (lr_n g 167))))] _
  refine pm_ifb_ne (off := 13) 27 (by decide +kernel) (by decide) (fun (h9 : (lr_be x (nI (lr_n g 167))) = true) => absurd (hb.symm.trans h9) (by decide)) (fun (h14 : (lr_be x (nI (lr_n g 167))) = false) => ?_)
  exact pm_throw (is := 173) (tx := "there is no such redirect") pm_exIO rfl (by decide +kernel) rfl (by decide +kernel) (by decide +kernel) (by decide +kernel) (by decide +kernel) (by decide +kernel) (by decide) (by decide) (⟨rfl, rfl⟩)
set_option maxHeartbeats 4000000 in
set_option maxRecDepth 100000 in
theorem c_X9_dropRedirect_r {g : Nat → Int32} {h : Nat} (μ : pm_Mm) (hR : lr_Rel μ.1 1 g) (hG : lr_G g) (hh : h < lr_n g 167) (hr : lr_crw g (nI h) = true) : pm_CT mi_X9_dropRedirect [.ref 0, .int (nI h)] μ (fun _ _ => False) (fun E μ2 => E = "java/lang/UnsupportedOperationException" ∧ μ2 = pm_set μ 0 6 2) := by
  refine pm_CT_of (lo := [some (.ref 0), some (.int (nI h))]) (by decide +kernel) rfl rfl (by intro v hv; simp at hv; rcases hv with rfl | rfl <;> rfl) (Nat.le_of_ble_eq_true rfl) rfl ?_
  have hm1 := lr_mh hG; have hm2 := lr_mw hG; have hm3 := lr_mp hG; have hm4 := lr_mr hG; have hm5 := lr_ma hG; have hm6 := lr_ml hG
  refine pm_bl [(.iload_n 1, 1, 1, 0, 0), (.aload_n 0, 1, 0, 0, 0), (.getfield 10, 3, 9, 0, 0), (.getfield 158, 3, 5, 3, 0), (.getfield 162, 3, 7, 0, 0)] (pc1 := 11) (lo1 := [some (.ref 0), some (.int (nI h))]) (st1 := [.int (μ.1 16 0), .int (nI h)]) (μ1 := μ) (vc := True) rfl (by decide +kernel) rfl trivial ?_
  rw [lr_rNr hR, lr_gr hG]
  refine pm_callS2 mi_X9_isBelow (ix := 130) (kc2 := 0) (ks2 := 0) (As := [.int (nI h), .int (nI (lr_n g 167))]) (rest := []) (c_X9_isBelow (nI h) (nI (lr_n g 167)) μ) cal_X9_isBelow lk9_130 (by decide +kernel) rfl (by decide +kernel) rfl rfl (Nat.le_of_ble_eq_true rfl) (by decide) (by decide) (fun _ _ h9 => h9.elim) ?_
  rintro _ _ ⟨rfl, h9⟩; rw [h9]; clear h9
  show pm_V _ _ _ _ 14 _ [.int (lr_b (lr_be (nI h) (nI (lr_n g 167))))] _
  refine pm_ifb_ne (off := 13) 27 (by decide +kernel) (by decide) (fun (h14 : (lr_be (nI h) (nI (lr_n g 167))) = true) => ?_) (fun (h9 : (lr_be (nI h) (nI (lr_n g 167))) = false) => absurd (h9.symm.trans (lr_be_1 hh (by omega))) (by decide))
  refine pm_bl [(.aload_n 0, 1, 0, 0, 0), (.getfield 10, 3, 9, 0, 0), (.getfield 158, 3, 5, 3, 0), (.iload_n 1, 1, 1, 0, 0)] (pc1 := 35) (lo1 := [some (.ref 0), some (.int (nI h))]) (st1 := [.int (nI h), .ref 16]) (μ1 := μ) (vc := True) rfl (by decide +kernel) rfl trivial ?_
  refine pm_callV2 mi_X7_leadRoundWithout (ix := 175) (b := 16) (ci := 7) (kc2 := 0) (ks2 := 0) (As := [.int (nI h)]) (rest := []) (c_X7_leadRoundWithout (nI h) μ hR hG) cal_X7_leadRoundWithout lk9_175 (by decide +kernel) rfl (by decide +kernel) rfl rfl rfl rfl (Nat.le_of_ble_eq_true rfl) (by decide) (by decide) (fun _ _ h9 => h9.elim) ?_
  rintro _ _ ⟨rfl, h9⟩; rw [h9]; clear h9
  show pm_V _ _ _ _ 38 _ [.int (lr_b (lr_crw g (nI h)))] _
  refine pm_ifb_eq (off := 8) 46 (by decide +kernel) (by decide) (fun (h9 : (lr_crw g (nI h)) = false) => absurd (hr.symm.trans h9) (by decide)) (fun (h38 : (lr_crw g (nI h)) = true) => ?_)
  refine pm_bl [(.aload_n 0, 1, 0, 0, 0), (.iconst 2, 1, 0, 0, 2)] (pc1 := 43) (lo1 := [some (.ref 0), some (.int (nI h))]) (st1 := [.int 2, .ref 0]) (μ1 := μ) (vc := True) rfl (by decide +kernel) rfl trivial ?_
  refine pm_callV2 mi_X9_refuse (ix := 165) (b := 0) (ci := 9) (kc2 := 1) (ks2 := 6) (As := [.int 2]) (rest := []) (c_X9_refuse 2 μ) cal_X9_refuse lk9_165 (by decide +kernel) rfl (by decide +kernel) rfl rfl rfl rfl (Nat.le_of_ble_eq_true rfl) (by decide) (by decide) (fun E μ9 h9 => h9) ?_
  rintro _ _ h9; exact h9.elim
set_option maxHeartbeats 4000000 in
set_option maxRecDepth 100000 in
theorem c_X9_dropRedirect {g : Nat → Int32} {c n : Nat} {F : Nat → Nat → Int32} {h : Nat} (μ : pm_Mm) (hR : lr_Rel μ.1 1 g) (hG : lr_G g) (hh : h < lr_n g 167) (hr : lr_crw g (nI h) = false) (hH : lr_Hs μ.1 c n F) : pm_CT mi_X9_dropRedirect [.ref 0, .int (nI h)] μ (fun v μ2 => v = some (.int (nI (lr_n g 167 - 1))) ∧ lr_fc μ μ2 ∧ lr_Rel μ2.1 1 (lr_grem g h) ∧ lr_Hs μ2.1 (min (c + 1) 8) ((n + 1) % 8) (lr_psh c F g)) pm_NX := by
  refine pm_CT_of (lo := [some (.ref 0), some (.int (nI h))]) (by decide +kernel) rfl rfl (by intro v hv; simp at hv; rcases hv with rfl | rfl <;> rfl) (Nat.le_of_ble_eq_true rfl) rfl ?_
  have hm1 := lr_mh hG; have hm2 := lr_mw hG; have hm3 := lr_mp hG; have hm4 := lr_mr hG; have hm5 := lr_ma hG; have hm6 := lr_ml hG
  refine pm_bl [(.iload_n 1, 1, 1, 0, 0), (.aload_n 0, 1, 0, 0, 0), (.getfield 10, 3, 9, 0, 0), (.getfield 158, 3, 5, 3, 0), (.getfield 162, 3, 7, 0, 0)] (pc1 := 11) (lo1 := [some (.ref 0), some (.int (nI h))]) (st1 := [.int (μ.1 16 0), .int (nI h)]) (μ1 := μ) (vc := True) rfl (by decide +kernel) rfl trivial ?_
  rw [lr_rNr hR, lr_gr hG]
  refine pm_callS2 mi_X9_isBelow (ix := 130) (kc2 := 0) (ks2 := 0) (As := [.int (nI h), .int (nI (lr_n g 167))]) (rest := []) (c_X9_isBelow (nI h) (nI (lr_n g 167)) μ) cal_X9_isBelow lk9_130 (by decide +kernel) rfl (by decide +kernel) rfl rfl (Nat.le_of_ble_eq_true rfl) (by decide) (by decide) (fun _ _ h9 => h9.elim) ?_
  rintro _ _ ⟨rfl, h9⟩; rw [h9]; clear h9
  show pm_V _ _ _ _ 14 _ [.int (lr_b (lr_be (nI h) (nI (lr_n g 167))))] _
  refine pm_ifb_ne (off := 13) 27 (by decide +kernel) (by decide) (fun (h14 : (lr_be (nI h) (nI (lr_n g 167))) = true) => ?_) (fun (h9 : (lr_be (nI h) (nI (lr_n g 167))) = false) => absurd (h9.symm.trans (lr_be_1 hh (by omega))) (by decide))
  refine pm_bl [(.aload_n 0, 1, 0, 0, 0), (.getfield 10, 3, 9, 0, 0), (.getfield 158, 3, 5, 3, 0), (.iload_n 1, 1, 1, 0, 0)] (pc1 := 35) (lo1 := [some (.ref 0), some (.int (nI h))]) (st1 := [.int (nI h), .ref 16]) (μ1 := μ) (vc := True) rfl (by decide +kernel) rfl trivial ?_
  refine pm_callV2 mi_X7_leadRoundWithout (ix := 175) (b := 16) (ci := 7) (kc2 := 0) (ks2 := 0) (As := [.int (nI h)]) (rest := []) (c_X7_leadRoundWithout (nI h) μ hR hG) cal_X7_leadRoundWithout lk9_175 (by decide +kernel) rfl (by decide +kernel) rfl rfl rfl rfl (Nat.le_of_ble_eq_true rfl) (by decide) (by decide) (fun _ _ h9 => h9.elim) ?_
  rintro _ _ ⟨rfl, h9⟩; rw [h9]; clear h9
  show pm_V _ _ _ _ 38 _ [.int (lr_b (lr_crw g (nI h)))] _
  refine pm_ifb_eq (off := 8) 46 (by decide +kernel) (by decide) (fun (h38 : (lr_crw g (nI h)) = false) => ?_) (fun (h9 : (lr_crw g (nI h)) = true) => absurd (hr.symm.trans h9) (by decide))
  refine pm_bl [(.aload_n 0, 1, 0, 0, 0), (.getfield 19, 3, 9, 1, 0), (.aload_n 0, 1, 0, 0, 0), (.getfield 10, 3, 9, 0, 0)] (pc1 := 54) (lo1 := [some (.ref 0), some (.int (nI h))]) (st1 := [.ref 1, .ref 45]) (μ1 := μ) (vc := True) rfl (by decide +kernel) rfl trivial ?_
  refine pm_callV2 mi_X2_keep (ix := 78) (b := 45) (ci := 2) (kc2 := 0) (ks2 := 0) (As := [.ref 1]) (rest := []) (c_X2_keep (c := c) (n := n) μ hR hG.B hH.2.1 hH.2.2.2.1 hH.2.2.1 hH.1) cal_X2_keep lk9_78 (by decide +kernel) rfl (by decide +kernel) rfl rfl rfl rfl (Nat.le_of_ble_eq_true rfl) (by decide) (by decide) (fun _ _ h9 => h9.elim) ?_
  rintro _ μ1 ⟨rfl, h2k, hfk, hRk, hck, hnk⟩
  obtain ⟨hFC, hR1, hH1⟩ := lr_keep_ok hR hH h2k hfk hRk hck hnk
  show pm_V _ _ _ _ 57 _ [] _
  refine pm_bl [(.aload_n 0, 1, 0, 0, 0), (.getfield 10, 3, 9, 0, 0), (.getfield 158, 3, 5, 3, 0), (.iload_n 1, 1, 1, 0, 0)] (pc1 := 65) (lo1 := [some (.ref 0), some (.int (nI h))]) (st1 := [.int (nI h), .ref 16]) (μ1 := μ1) (vc := True) rfl (by decide +kernel) rfl trivial ?_
  refine pm_callV2 mi_X7_remove (ix := 178) (b := 16) (ci := 7) (kc2 := 0) (ks2 := 0) (As := [.int (nI h)]) (rest := []) (c_X7_remove (k := h) μ1 hR1 hG.B (lr_gr hG) hh) cal_X7_remove lk9_178 (by decide +kernel) rfl (by decide +kernel) rfl rfl rfl rfl (Nat.le_of_ble_eq_true rfl) (by decide) (by decide) (fun _ _ h9 => h9.elim) ?_
  rintro _ μ3 ⟨rfl, hf3, hR3⟩
  show pm_V _ _ _ _ 68 _ [] _
  refine pm_bl [(.aload_n 0, 1, 0, 0, 0), (.getfield 10, 3, 9, 0, 0), (.getfield 158, 3, 5, 3, 0), (.getfield 162, 3, 7, 0, 0)] (pc1 := 78) (lo1 := [some (.ref 0), some (.int (nI h))]) (st1 := [.int (μ3.1 16 0)]) (μ1 := μ3) (vc := True) rfl (by decide +kernel) rfl trivial ?_
  rw [lr_rNr hR3, show lr_grem g h 167 = nI (lr_n g 167 - 1) from by unfold lr_grem; rw [if_neg (by omega), if_pos rfl]]
  exact pm_iret (ty := .int) rfl rfl (by decide) (by decide) (by decide +kernel) (⟨rfl, hFC.tr hf3, hR3, hH1.fr (fun i hi => hf3.1 i (by omega))⟩)
set_option maxHeartbeats 4000000 in
set_option maxRecDepth 100000 in
theorem c_X9_way_no1 {g : Nat → Int32} {x : Int32} (y z : Int32) (μ : pm_Mm) (hR : lr_Rel μ.1 1 g) (hG : lr_G g) (hb : lr_be x (nI (lr_n g 35)) = false) : pm_CT mi_X9_way [.ref 0, .int x, .int y, .int z] μ (fun _ _ => False) (fun E μ2 => E = "java/lang/IndexOutOfBoundsException" ∧ μ2 = μ) := by
  refine pm_CT_of (lo := [some (.ref 0), some (.int x), some (.int y), some (.int z), none]) (by decide +kernel) rfl rfl (by intro v hv; simp at hv; rcases hv with rfl | rfl | rfl | rfl <;> rfl) (Nat.le_of_ble_eq_true rfl) rfl ?_
  have hm1 := lr_mh hG; have hm2 := lr_mw hG; have hm3 := lr_mp hG; have hm4 := lr_mr hG; have hm5 := lr_ma hG; have hm6 := lr_ml hG
  refine pm_bl [(.aload_n 0, 1, 0, 0, 0), (.iload_n 1, 1, 1, 0, 0)] (pc1 := 2) (lo1 := [some (.ref 0), some (.int x), some (.int y), some (.int z), none]) (st1 := [.int x, .ref 0]) (μ1 := μ) (vc := True) rfl (by decide +kernel) rfl trivial ?_
  refine pm_callV2 mi_X9_requirePerson (ix := 151) (b := 0) (ci := 9) (kc2 := 1) (ks2 := 6) (As := [.int x]) (rest := []) (c_X9_requirePerson_no x μ hR hG hb) cal_X9_requirePerson lk9_151 (by decide +kernel) rfl (by decide +kernel) rfl rfl rfl rfl (Nat.le_of_ble_eq_true rfl) (by decide) (by decide) (fun E μ9 h9 => h9) ?_
  rintro _ _ h9; exact h9.elim
set_option maxHeartbeats 4000000 in
set_option maxRecDepth 100000 in
theorem c_X9_way_no2 {g : Nat → Int32} {h : Nat} {y : Int32} (z : Int32) (μ : pm_Mm) (hR : lr_Rel μ.1 1 g) (hG : lr_G g) (hh : h < lr_n g 35) (hl : lr_in y 0 365 = false) : pm_CT mi_X9_way [.ref 0, .int (nI h), .int y, .int z] μ (fun _ _ => False) (fun E μ2 => E = "java/lang/IllegalArgumentException" ∧ μ2 = μ) := by
  refine pm_CT_of (lo := [some (.ref 0), some (.int (nI h)), some (.int y), some (.int z), none]) (by decide +kernel) rfl rfl (by intro v hv; simp at hv; rcases hv with rfl | rfl | rfl | rfl <;> rfl) (Nat.le_of_ble_eq_true rfl) rfl ?_
  have hm1 := lr_mh hG; have hm2 := lr_mw hG; have hm3 := lr_mp hG; have hm4 := lr_mr hG; have hm5 := lr_ma hG; have hm6 := lr_ml hG
  refine pm_bl [(.aload_n 0, 1, 0, 0, 0), (.iload_n 1, 1, 1, 0, 0)] (pc1 := 2) (lo1 := [some (.ref 0), some (.int (nI h)), some (.int y), some (.int z), none]) (st1 := [.int (nI h), .ref 0]) (μ1 := μ) (vc := True) rfl (by decide +kernel) rfl trivial ?_
  refine pm_callV2 mi_X9_requirePerson (ix := 151) (b := 0) (ci := 9) (kc2 := 1) (ks2 := 6) (As := [.int (nI h)]) (rest := []) (c_X9_requirePerson (nI h) μ (by first | exact hR | exact hR1) hG (lr_be_1 hh (by omega))) cal_X9_requirePerson lk9_151 (by decide +kernel) rfl (by decide +kernel) rfl rfl rfl rfl (Nat.le_of_ble_eq_true rfl) (by decide) (by decide) (fun _ _ h9 => h9.elim) ?_
  rintro _ _ ⟨rfl, h9⟩; rw [h9]; clear h9
  show pm_V _ _ _ _ 5 _ [] _
  refine pm_bl [(.iload_n 2, 1, 2, 0, 0)] (pc1 := 6) (lo1 := [some (.ref 0), some (.int (nI h)), some (.int y), some (.int z), none]) (st1 := [.int y]) (μ1 := μ) (vc := True) rfl (by decide +kernel) rfl trivial ?_
  refine pm_callS2 mi_X9_requireDay (ix := 181) (kc2 := 2) (ks2 := 12) (As := [.int y]) (rest := []) (c_X9_requireDay_no y μ hl) cal_X9_requireDay lk9_181 (by decide +kernel) rfl (by decide +kernel) rfl rfl (Nat.le_of_ble_eq_true rfl) (by decide) (by decide) (fun E μ9 h9 => h9) ?_
  rintro _ _ h9; exact h9.elim
set_option maxHeartbeats 4000000 in
set_option maxRecDepth 100000 in
theorem c_X9_way_no2b {g : Nat → Int32} {h : Nat} {y z : Int32} (μ : pm_Mm) (hR : lr_Rel μ.1 1 g) (hG : lr_G g) (hh : h < lr_n g 35) (hl : lr_in y 0 365 = true) (hz : z < -1) : pm_CT mi_X9_way [.ref 0, .int (nI h), .int y, .int z] μ (fun _ _ => False) (fun E μ2 => E = "java/lang/IllegalArgumentException" ∧ μ2 = μ) := by
  refine pm_CT_of (lo := [some (.ref 0), some (.int (nI h)), some (.int y), some (.int z), none]) (by decide +kernel) rfl rfl (by intro v hv; simp at hv; rcases hv with rfl | rfl | rfl | rfl <;> rfl) (Nat.le_of_ble_eq_true rfl) rfl ?_
  have hm1 := lr_mh hG; have hm2 := lr_mw hG; have hm3 := lr_mp hG; have hm4 := lr_mr hG; have hm5 := lr_ma hG; have hm6 := lr_ml hG
  refine pm_bl [(.aload_n 0, 1, 0, 0, 0), (.iload_n 1, 1, 1, 0, 0)] (pc1 := 2) (lo1 := [some (.ref 0), some (.int (nI h)), some (.int y), some (.int z), none]) (st1 := [.int (nI h), .ref 0]) (μ1 := μ) (vc := True) rfl (by decide +kernel) rfl trivial ?_
  refine pm_callV2 mi_X9_requirePerson (ix := 151) (b := 0) (ci := 9) (kc2 := 1) (ks2 := 6) (As := [.int (nI h)]) (rest := []) (c_X9_requirePerson (nI h) μ (by first | exact hR | exact hR1) hG (lr_be_1 hh (by omega))) cal_X9_requirePerson lk9_151 (by decide +kernel) rfl (by decide +kernel) rfl rfl rfl rfl (Nat.le_of_ble_eq_true rfl) (by decide) (by decide) (fun _ _ h9 => h9.elim) ?_
  rintro _ _ ⟨rfl, h9⟩; rw [h9]; clear h9
  show pm_V _ _ _ _ 5 _ [] _
  refine pm_bl [(.iload_n 2, 1, 2, 0, 0)] (pc1 := 6) (lo1 := [some (.ref 0), some (.int (nI h)), some (.int y), some (.int z), none]) (st1 := [.int y]) (μ1 := μ) (vc := True) rfl (by decide +kernel) rfl trivial ?_
  refine pm_callS2 mi_X9_requireDay (ix := 181) (kc2 := 2) (ks2 := 12) (As := [.int y]) (rest := []) (c_X9_requireDay y μ hl) cal_X9_requireDay lk9_181 (by decide +kernel) rfl (by decide +kernel) rfl rfl (Nat.le_of_ble_eq_true rfl) (by decide) (by decide) (fun _ _ h9 => h9.elim) ?_
  rintro _ _ ⟨rfl, h9⟩; rw [h9]; clear h9
  show pm_V _ _ _ _ 9 _ [] _
  refine pm_bl [(.iload_n 3, 1, 3, 0, 0), (.iconst (-1), 1, 0, 0, (-1))] (pc1 := 11) (lo1 := [some (.ref 0), some (.int (nI h)), some (.int y), some (.int z), none]) (st1 := [.int (-1), .int z]) (μ1 := μ) (vc := True) rfl (by decide +kernel) rfl trivial ?_
  refine pm_icmp_ge (off := 13) 24 (by decide +kernel) (by decide) (fun (h9 : (-1) ≤ z) => absurd h9 (Int32.not_le.mpr hz)) (fun (h11 : ¬ ((-1) ≤ z)) => ?_)
  exact pm_throw (is := 184) (tx := "the index is below -1") pm_exIA rfl (by decide +kernel) rfl (by decide +kernel) (by decide +kernel) (by decide +kernel) (by decide +kernel) (by decide +kernel) (by decide) (by decide) (⟨rfl, rfl⟩)
set_option maxHeartbeats 4000000 in
set_option maxRecDepth 100000 in
theorem c_X9_way_end {g : Nat → Int32} {h : Nat} {y : Int32} (μ : pm_Mm) (hR : lr_Rel μ.1 1 g) (hG : lr_G g) (hh : h < lr_n g 35) (hl : lr_in y 0 365 = true) : pm_CT mi_X9_way [.ref 0, .int (nI h), .int y, .int (-1)] μ (fun v μ2 => v = some (.int (lr_we g h y)) ∧ μ2 = μ) pm_NX := by
  refine pm_CT_of (lo := [some (.ref 0), some (.int (nI h)), some (.int y), some (.int (-1)), none]) (by decide +kernel) rfl rfl (by intro v hv; simp at hv; rcases hv with rfl | rfl | rfl | rfl <;> rfl) (Nat.le_of_ble_eq_true rfl) rfl ?_
  have hm1 := lr_mh hG; have hm2 := lr_mw hG; have hm3 := lr_mp hG; have hm4 := lr_mr hG; have hm5 := lr_ma hG; have hm6 := lr_ml hG
  have hne : ¬ lr_we g h y = -1 := by obtain ⟨t, e, ht⟩ := lr_we_ok hG hh y; rw [e]; exact lr_ne1 (by omega)
  refine pm_bl [(.aload_n 0, 1, 0, 0, 0), (.iload_n 1, 1, 1, 0, 0)] (pc1 := 2) (lo1 := [some (.ref 0), some (.int (nI h)), some (.int y), some (.int (-1)), none]) (st1 := [.int (nI h), .ref 0]) (μ1 := μ) (vc := True) rfl (by decide +kernel) rfl trivial ?_
  refine pm_callV2 mi_X9_requirePerson (ix := 151) (b := 0) (ci := 9) (kc2 := 1) (ks2 := 6) (As := [.int (nI h)]) (rest := []) (c_X9_requirePerson (nI h) μ (by first | exact hR | exact hR1) hG (lr_be_1 hh (by omega))) cal_X9_requirePerson lk9_151 (by decide +kernel) rfl (by decide +kernel) rfl rfl rfl rfl (Nat.le_of_ble_eq_true rfl) (by decide) (by decide) (fun _ _ h9 => h9.elim) ?_
  rintro _ _ ⟨rfl, h9⟩; rw [h9]; clear h9
  show pm_V _ _ _ _ 5 _ [] _
  refine pm_bl [(.iload_n 2, 1, 2, 0, 0)] (pc1 := 6) (lo1 := [some (.ref 0), some (.int (nI h)), some (.int y), some (.int (-1)), none]) (st1 := [.int y]) (μ1 := μ) (vc := True) rfl (by decide +kernel) rfl trivial ?_
  refine pm_callS2 mi_X9_requireDay (ix := 181) (kc2 := 2) (ks2 := 12) (As := [.int y]) (rest := []) (c_X9_requireDay y μ hl) cal_X9_requireDay lk9_181 (by decide +kernel) rfl (by decide +kernel) rfl rfl (Nat.le_of_ble_eq_true rfl) (by decide) (by decide) (fun _ _ h9 => h9.elim) ?_
  rintro _ _ ⟨rfl, h9⟩; rw [h9]; clear h9
  show pm_V _ _ _ _ 9 _ [] _
  refine pm_bl [(.iload_n 3, 1, 3, 0, 0), (.iconst (-1), 1, 0, 0, (-1))] (pc1 := 11) (lo1 := [some (.ref 0), some (.int (nI h)), some (.int y), some (.int (-1)), none]) (st1 := [.int (-1), .int (-1)]) (μ1 := μ) (vc := True) rfl (by decide +kernel) rfl trivial ?_
  refine pm_icmp_ge (off := 13) 24 (by decide +kernel) (by decide) (fun _ => ?_) (fun h9 => absurd h9 (by decide))
  refine pm_bl [(.iload_n 3, 1, 3, 0, 0), (.iconst (-1), 1, 0, 0, (-1))] (pc1 := 26) (lo1 := [some (.ref 0), some (.int (nI h)), some (.int y), some (.int (-1)), none]) (st1 := [.int (-1), .int (-1)]) (μ1 := μ) (vc := True) rfl (by decide +kernel) rfl trivial ?_
  refine pm_icmp_ne (off := 15) 41 (by decide +kernel) (by decide) (fun h9 => absurd h9 (by decide)) (fun _ => ?_)
  refine pm_bl [(.aload_n 0, 1, 0, 0, 0), (.getfield 10, 3, 9, 0, 0), (.iload_n 1, 1, 1, 0, 0), (.iload_n 2, 1, 2, 0, 0)] (pc1 := 35) (lo1 := [some (.ref 0), some (.int (nI h)), some (.int y), some (.int (-1)), none]) (st1 := [.int y, .int (nI h), .ref 1]) (μ1 := μ) (vc := True) rfl (by decide +kernel) rfl trivial ?_
  refine pm_callV2 mi_X5_endOfWay (ix := 186) (b := 1) (ci := 5) (kc2 := 2) (ks2 := 12) (As := [.int (nI h), .int y]) (rest := []) (c_X5_endOfWay (p := h) y μ hR hG hh) cal_X5_endOfWay lk9_186 (by decide +kernel) rfl (by decide +kernel) rfl rfl rfl rfl (Nat.le_of_ble_eq_true rfl) (by decide) (by decide) (fun _ _ h9 => h9.elim) ?_
  rintro _ _ ⟨rfl, h9⟩; rw [h9]; clear h9
  show pm_V _ _ _ _ 38 _ [.int (lr_we g h y)] _
  refine pm_bl [(.goto 13, 3, 51, 0, 0), (.istore 4, 2, 4, 0, 0), (.iload 4, 2, 4, 0, 0), (.iconst (-1), 1, 0, 0, (-1))] (pc1 := 56) (lo1 := [some (.ref 0), some (.int (nI h)), some (.int y), some (.int (-1)), some (.int (lr_we g h y))]) (st1 := [.int (-1), .int (lr_we g h y)]) (μ1 := μ) (vc := True) rfl (by decide +kernel) rfl trivial ?_
  refine pm_icmp_ne (off := 13) 69 (by decide +kernel) (by decide) (fun (h56 : ¬ (lr_we g h y) = (-1)) => ?_) (fun (h9 : (lr_we g h y) = (-1)) => absurd h9 hne)
  refine pm_bl [(.iload 4, 2, 4, 0, 0)] (pc1 := 71) (lo1 := [some (.ref 0), some (.int (nI h)), some (.int y), some (.int (-1)), some (.int (lr_we g h y))]) (st1 := [.int (lr_we g h y)]) (μ1 := μ) (vc := True) rfl (by decide +kernel) rfl trivial ?_
  exact pm_iret (ty := .int) rfl rfl (by decide) (by decide) (by decide +kernel) (⟨rfl, rfl⟩)
set_option maxHeartbeats 4000000 in
set_option maxRecDepth 100000 in
theorem c_X9_way_no3 {g : Nat → Int32} {h K : Nat} {y : Int32} (μ : pm_Mm) (hR : lr_Rel μ.1 1 g) (hG : lr_G g) (hh : h < lr_n g 35) (hl : lr_in y 0 365 = true) (hK : K < 2 ^ 31) (hs : (if K < 16 then lr_on g y K (lr_wb g h y) else -1) = -1) : pm_CT mi_X9_way [.ref 0, .int (nI h), .int y, .int (nI K)] μ (fun _ _ => False) (fun E μ2 => E = "java/util/NoSuchElementException" ∧ μ2 = μ) := by
  refine pm_CT_of (lo := [some (.ref 0), some (.int (nI h)), some (.int y), some (.int (nI K)), none]) (by decide +kernel) rfl rfl (by intro v hv; simp at hv; rcases hv with rfl | rfl | rfl | rfl <;> rfl) (Nat.le_of_ble_eq_true rfl) rfl ?_
  have hm1 := lr_mh hG; have hm2 := lr_mw hG; have hm3 := lr_mp hG; have hm4 := lr_mr hG; have hm5 := lr_ma hG; have hm6 := lr_ml hG
  refine pm_bl [(.aload_n 0, 1, 0, 0, 0), (.iload_n 1, 1, 1, 0, 0)] (pc1 := 2) (lo1 := [some (.ref 0), some (.int (nI h)), some (.int y), some (.int (nI K)), none]) (st1 := [.int (nI h), .ref 0]) (μ1 := μ) (vc := True) rfl (by decide +kernel) rfl trivial ?_
  refine pm_callV2 mi_X9_requirePerson (ix := 151) (b := 0) (ci := 9) (kc2 := 1) (ks2 := 6) (As := [.int (nI h)]) (rest := []) (c_X9_requirePerson (nI h) μ (by first | exact hR | exact hR1) hG (lr_be_1 hh (by omega))) cal_X9_requirePerson lk9_151 (by decide +kernel) rfl (by decide +kernel) rfl rfl rfl rfl (Nat.le_of_ble_eq_true rfl) (by decide) (by decide) (fun _ _ h9 => h9.elim) ?_
  rintro _ _ ⟨rfl, h9⟩; rw [h9]; clear h9
  show pm_V _ _ _ _ 5 _ [] _
  refine pm_bl [(.iload_n 2, 1, 2, 0, 0)] (pc1 := 6) (lo1 := [some (.ref 0), some (.int (nI h)), some (.int y), some (.int (nI K)), none]) (st1 := [.int y]) (μ1 := μ) (vc := True) rfl (by decide +kernel) rfl trivial ?_
  refine pm_callS2 mi_X9_requireDay (ix := 181) (kc2 := 2) (ks2 := 12) (As := [.int y]) (rest := []) (c_X9_requireDay y μ hl) cal_X9_requireDay lk9_181 (by decide +kernel) rfl (by decide +kernel) rfl rfl (Nat.le_of_ble_eq_true rfl) (by decide) (by decide) (fun _ _ h9 => h9.elim) ?_
  rintro _ _ ⟨rfl, h9⟩; rw [h9]; clear h9
  show pm_V _ _ _ _ 9 _ [] _
  refine pm_bl [(.iload_n 3, 1, 3, 0, 0), (.iconst (-1), 1, 0, 0, (-1))] (pc1 := 11) (lo1 := [some (.ref 0), some (.int (nI h)), some (.int y), some (.int (nI K)), none]) (st1 := [.int (-1), .int (nI K)]) (μ1 := μ) (vc := True) rfl (by decide +kernel) rfl trivial ?_
  refine pm_icmp_ge (off := 13) 24 (by decide +kernel) (by decide) (fun (h11 : (-1) ≤ (nI K)) => ?_) (fun (h9 : ¬ ((-1) ≤ (nI K))) => absurd (Int32.le_trans (by decide) (nI_pos' hK)) h9)
  refine pm_bl [(.iload_n 3, 1, 3, 0, 0), (.iconst (-1), 1, 0, 0, (-1))] (pc1 := 26) (lo1 := [some (.ref 0), some (.int (nI h)), some (.int y), some (.int (nI K)), none]) (st1 := [.int (-1), .int (nI K)]) (μ1 := μ) (vc := True) rfl (by decide +kernel) rfl trivial ?_
  refine pm_icmp_ne (off := 15) 41 (by decide +kernel) (by decide) (fun (h26 : ¬ (nI K) = (-1)) => ?_) (fun (h9 : (nI K) = (-1)) => absurd h9 (lr_ne1 hK))
  refine pm_bl [(.aload_n 0, 1, 0, 0, 0), (.getfield 10, 3, 9, 0, 0), (.iload_n 1, 1, 1, 0, 0), (.iload_n 2, 1, 2, 0, 0), (.iload_n 3, 1, 3, 0, 0)] (pc1 := 48) (lo1 := [some (.ref 0), some (.int (nI h)), some (.int y), some (.int (nI K)), none]) (st1 := [.int (nI K), .int y, .int (nI h), .ref 1]) (μ1 := μ) (vc := True) rfl (by decide +kernel) rfl trivial ?_
  refine pm_callV2 mi_X5_houseOnWay (ix := 189) (b := 1) (ci := 5) (kc2 := 2) (ks2 := 12) (As := [.int (nI h), .int y, .int (nI K)]) (rest := []) (c_X5_houseOnWay (p := h) y (N := K) rfl hK μ hR hG hh) cal_X5_houseOnWay lk9_189 (by decide +kernel) rfl (by decide +kernel) rfl rfl rfl rfl (Nat.le_of_ble_eq_true rfl) (by decide) (by decide) (fun _ _ h9 => h9.elim) ?_
  rintro _ _ ⟨rfl, h9⟩; rw [h9]; clear h9
  show pm_V _ _ _ _ 51 _ [.int (if K < 16 then lr_on g y K (lr_wb g h y) else -1)] _
  refine pm_bl [(.istore 4, 2, 4, 0, 0), (.iload 4, 2, 4, 0, 0), (.iconst (-1), 1, 0, 0, (-1))] (pc1 := 56) (lo1 := [some (.ref 0), some (.int (nI h)), some (.int y), some (.int (nI K)), some (.int (if K < 16 then lr_on g y K (lr_wb g h y) else -1))]) (st1 := [.int (-1), .int (if K < 16 then lr_on g y K (lr_wb g h y) else -1)]) (μ1 := μ) (vc := True) rfl (by decide +kernel) rfl trivial ?_
  refine pm_icmp_ne (off := 13) 69 (by decide +kernel) (by decide) (fun (h9 : ¬ (if K < 16 then lr_on g y K (lr_wb g h y) else -1) = (-1)) => absurd hs h9) (fun (h56 : (if K < 16 then lr_on g y K (lr_wb g h y) else -1) = (-1)) => ?_)
  exact pm_throwX (is := 193) (tx := "the way is not so long") pm_exNS rfl (by decide +kernel) rfl (by decide +kernel) (by decide +kernel) (by decide +kernel) (by decide +kernel) (by decide +kernel) (by decide) (by decide) (⟨rfl, rfl⟩)
set_option maxHeartbeats 4000000 in
set_option maxRecDepth 100000 in
theorem c_X9_way {g : Nat → Int32} {h K : Nat} {y : Int32} (μ : pm_Mm) (hR : lr_Rel μ.1 1 g) (hG : lr_G g) (hh : h < lr_n g 35) (hl : lr_in y 0 365 = true) (hK : K < 2 ^ 31) (hs : ¬ (if K < 16 then lr_on g y K (lr_wb g h y) else -1) = -1) : pm_CT mi_X9_way [.ref 0, .int (nI h), .int y, .int (nI K)] μ (fun v μ2 => v = some (.int ((if K < 16 then lr_on g y K (lr_wb g h y) else -1))) ∧ μ2 = μ) pm_NX := by
  refine pm_CT_of (lo := [some (.ref 0), some (.int (nI h)), some (.int y), some (.int (nI K)), none]) (by decide +kernel) rfl rfl (by intro v hv; simp at hv; rcases hv with rfl | rfl | rfl | rfl <;> rfl) (Nat.le_of_ble_eq_true rfl) rfl ?_
  have hm1 := lr_mh hG; have hm2 := lr_mw hG; have hm3 := lr_mp hG; have hm4 := lr_mr hG; have hm5 := lr_ma hG; have hm6 := lr_ml hG
  refine pm_bl [(.aload_n 0, 1, 0, 0, 0), (.iload_n 1, 1, 1, 0, 0)] (pc1 := 2) (lo1 := [some (.ref 0), some (.int (nI h)), some (.int y), some (.int (nI K)), none]) (st1 := [.int (nI h), .ref 0]) (μ1 := μ) (vc := True) rfl (by decide +kernel) rfl trivial ?_
  refine pm_callV2 mi_X9_requirePerson (ix := 151) (b := 0) (ci := 9) (kc2 := 1) (ks2 := 6) (As := [.int (nI h)]) (rest := []) (c_X9_requirePerson (nI h) μ (by first | exact hR | exact hR1) hG (lr_be_1 hh (by omega))) cal_X9_requirePerson lk9_151 (by decide +kernel) rfl (by decide +kernel) rfl rfl rfl rfl (Nat.le_of_ble_eq_true rfl) (by decide) (by decide) (fun _ _ h9 => h9.elim) ?_
  rintro _ _ ⟨rfl, h9⟩; rw [h9]; clear h9
  show pm_V _ _ _ _ 5 _ [] _
  refine pm_bl [(.iload_n 2, 1, 2, 0, 0)] (pc1 := 6) (lo1 := [some (.ref 0), some (.int (nI h)), some (.int y), some (.int (nI K)), none]) (st1 := [.int y]) (μ1 := μ) (vc := True) rfl (by decide +kernel) rfl trivial ?_
  refine pm_callS2 mi_X9_requireDay (ix := 181) (kc2 := 2) (ks2 := 12) (As := [.int y]) (rest := []) (c_X9_requireDay y μ hl) cal_X9_requireDay lk9_181 (by decide +kernel) rfl (by decide +kernel) rfl rfl (Nat.le_of_ble_eq_true rfl) (by decide) (by decide) (fun _ _ h9 => h9.elim) ?_
  rintro _ _ ⟨rfl, h9⟩; rw [h9]; clear h9
  show pm_V _ _ _ _ 9 _ [] _
  refine pm_bl [(.iload_n 3, 1, 3, 0, 0), (.iconst (-1), 1, 0, 0, (-1))] (pc1 := 11) (lo1 := [some (.ref 0), some (.int (nI h)), some (.int y), some (.int (nI K)), none]) (st1 := [.int (-1), .int (nI K)]) (μ1 := μ) (vc := True) rfl (by decide +kernel) rfl trivial ?_
  refine pm_icmp_ge (off := 13) 24 (by decide +kernel) (by decide) (fun (h11 : (-1) ≤ (nI K)) => ?_) (fun (h9 : ¬ ((-1) ≤ (nI K))) => absurd (Int32.le_trans (by decide) (nI_pos' hK)) h9)
  refine pm_bl [(.iload_n 3, 1, 3, 0, 0), (.iconst (-1), 1, 0, 0, (-1))] (pc1 := 26) (lo1 := [some (.ref 0), some (.int (nI h)), some (.int y), some (.int (nI K)), none]) (st1 := [.int (-1), .int (nI K)]) (μ1 := μ) (vc := True) rfl (by decide +kernel) rfl trivial ?_
  refine pm_icmp_ne (off := 15) 41 (by decide +kernel) (by decide) (fun (h26 : ¬ (nI K) = (-1)) => ?_) (fun (h9 : (nI K) = (-1)) => absurd h9 (lr_ne1 hK))
  refine pm_bl [(.aload_n 0, 1, 0, 0, 0), (.getfield 10, 3, 9, 0, 0), (.iload_n 1, 1, 1, 0, 0), (.iload_n 2, 1, 2, 0, 0), (.iload_n 3, 1, 3, 0, 0)] (pc1 := 48) (lo1 := [some (.ref 0), some (.int (nI h)), some (.int y), some (.int (nI K)), none]) (st1 := [.int (nI K), .int y, .int (nI h), .ref 1]) (μ1 := μ) (vc := True) rfl (by decide +kernel) rfl trivial ?_
  refine pm_callV2 mi_X5_houseOnWay (ix := 189) (b := 1) (ci := 5) (kc2 := 2) (ks2 := 12) (As := [.int (nI h), .int y, .int (nI K)]) (rest := []) (c_X5_houseOnWay (p := h) y (N := K) rfl hK μ hR hG hh) cal_X5_houseOnWay lk9_189 (by decide +kernel) rfl (by decide +kernel) rfl rfl rfl rfl (Nat.le_of_ble_eq_true rfl) (by decide) (by decide) (fun _ _ h9 => h9.elim) ?_
  rintro _ _ ⟨rfl, h9⟩; rw [h9]; clear h9
  show pm_V _ _ _ _ 51 _ [.int (if K < 16 then lr_on g y K (lr_wb g h y) else -1)] _
  refine pm_bl [(.istore 4, 2, 4, 0, 0), (.iload 4, 2, 4, 0, 0), (.iconst (-1), 1, 0, 0, (-1))] (pc1 := 56) (lo1 := [some (.ref 0), some (.int (nI h)), some (.int y), some (.int (nI K)), some (.int (if K < 16 then lr_on g y K (lr_wb g h y) else -1))]) (st1 := [.int (-1), .int (if K < 16 then lr_on g y K (lr_wb g h y) else -1)]) (μ1 := μ) (vc := True) rfl (by decide +kernel) rfl trivial ?_
  refine pm_icmp_ne (off := 13) 69 (by decide +kernel) (by decide) (fun (h56 : ¬ (if K < 16 then lr_on g y K (lr_wb g h y) else -1) = (-1)) => ?_) (fun (h9 : (if K < 16 then lr_on g y K (lr_wb g h y) else -1) = (-1)) => absurd h9 hs)
  refine pm_bl [(.iload 4, 2, 4, 0, 0)] (pc1 := 71) (lo1 := [some (.ref 0), some (.int (nI h)), some (.int y), some (.int (nI K)), some (.int (if K < 16 then lr_on g y K (lr_wb g h y) else -1))]) (st1 := [.int (if K < 16 then lr_on g y K (lr_wb g h y) else -1)]) (μ1 := μ) (vc := True) rfl (by decide +kernel) rfl trivial ?_
  exact pm_iret (ty := .int) rfl rfl (by decide) (by decide) (by decide +kernel) (⟨rfl, rfl⟩)
set_option maxHeartbeats 4000000 in
set_option maxRecDepth 100000 in
theorem c_X9_hold_no1 {g : Nat → Int32} {x : Int32} (y : Int32) (μ : pm_Mm) (hR : lr_Rel μ.1 1 g) (hG : lr_G g) (hb : lr_be x (nI (lr_n g 35)) = false) : pm_CT mi_X9_hold [.ref 0, .int x, .int y] μ (fun _ _ => False) (fun E μ2 => E = "java/lang/IndexOutOfBoundsException" ∧ μ2 = μ) := by
  refine pm_CT_of (lo := [some (.ref 0), some (.int x), some (.int y), none]) (by decide +kernel) rfl rfl (by intro v hv; simp at hv; rcases hv with rfl | rfl | rfl <;> rfl) (Nat.le_of_ble_eq_true rfl) rfl ?_
  have hm1 := lr_mh hG; have hm2 := lr_mw hG; have hm3 := lr_mp hG; have hm4 := lr_mr hG; have hm5 := lr_ma hG; have hm6 := lr_ml hG
  refine pm_bl [(.aload_n 0, 1, 0, 0, 0), (.iload_n 1, 1, 1, 0, 0)] (pc1 := 2) (lo1 := [some (.ref 0), some (.int x), some (.int y), none]) (st1 := [.int x, .ref 0]) (μ1 := μ) (vc := True) rfl (by decide +kernel) rfl trivial ?_
  refine pm_callV2 mi_X9_requirePerson (ix := 151) (b := 0) (ci := 9) (kc2 := 1) (ks2 := 6) (As := [.int x]) (rest := []) (c_X9_requirePerson_no x μ hR hG hb) cal_X9_requirePerson lk9_151 (by decide +kernel) rfl (by decide +kernel) rfl rfl rfl rfl (Nat.le_of_ble_eq_true rfl) (by decide) (by decide) (fun E μ9 h9 => h9) ?_
  rintro _ _ h9; exact h9.elim
set_option maxHeartbeats 4000000 in
set_option maxRecDepth 100000 in
theorem c_X9_hold_no2 {g : Nat → Int32} {h : Nat} {y : Int32} (μ : pm_Mm) (hR : lr_Rel μ.1 1 g) (hG : lr_G g) (hh : h < lr_n g 35) (hl : lr_in y (-1) 365 = false) : pm_CT mi_X9_hold [.ref 0, .int (nI h), .int y] μ (fun _ _ => False) (fun E μ2 => E = "java/lang/IllegalArgumentException" ∧ μ2 = μ) := by
  refine pm_CT_of (lo := [some (.ref 0), some (.int (nI h)), some (.int y), none]) (by decide +kernel) rfl rfl (by intro v hv; simp at hv; rcases hv with rfl | rfl | rfl <;> rfl) (Nat.le_of_ble_eq_true rfl) rfl ?_
  have hm1 := lr_mh hG; have hm2 := lr_mw hG; have hm3 := lr_mp hG; have hm4 := lr_mr hG; have hm5 := lr_ma hG; have hm6 := lr_ml hG
  refine pm_bl [(.aload_n 0, 1, 0, 0, 0), (.iload_n 1, 1, 1, 0, 0)] (pc1 := 2) (lo1 := [some (.ref 0), some (.int (nI h)), some (.int y), none]) (st1 := [.int (nI h), .ref 0]) (μ1 := μ) (vc := True) rfl (by decide +kernel) rfl trivial ?_
  refine pm_callV2 mi_X9_requirePerson (ix := 151) (b := 0) (ci := 9) (kc2 := 1) (ks2 := 6) (As := [.int (nI h)]) (rest := []) (c_X9_requirePerson (nI h) μ (by first | exact hR | exact hR1) hG (lr_be_1 hh (by omega))) cal_X9_requirePerson lk9_151 (by decide +kernel) rfl (by decide +kernel) rfl rfl rfl rfl (Nat.le_of_ble_eq_true rfl) (by decide) (by decide) (fun _ _ h9 => h9.elim) ?_
  rintro _ _ ⟨rfl, h9⟩; rw [h9]; clear h9
  show pm_V _ _ _ _ 5 _ [] _
  refine pm_bl [(.iload_n 2, 1, 2, 0, 0), (.iconst (-1), 1, 0, 0, (-1)), (.sipush 365, 3, 0, 0, 365)] (pc1 := 10) (lo1 := [some (.ref 0), some (.int (nI h)), some (.int y), none]) (st1 := [.int 365, .int (-1), .int y]) (μ1 := μ) (vc := True) rfl (by decide +kernel) rfl trivial ?_
  refine pm_callS2 mi_X9_isBetween (ix := 102) (kc2 := 1) (ks2 := 6) (As := [.int y, .int (-1), .int 365]) (rest := []) (c_X9_isBetween y (-1) 365 μ) cal_X9_isBetween lk9_102 (by decide +kernel) rfl (by decide +kernel) rfl rfl (Nat.le_of_ble_eq_true rfl) (by decide) (by decide) (fun _ _ h9 => h9.elim) ?_
  rintro _ _ ⟨rfl, h9⟩; rw [h9]; clear h9
  show pm_V _ _ _ _ 13 _ [.int (lr_b (lr_in y (-1) 365))] _
  refine pm_ifb_ne (off := 13) 26 (by decide +kernel) (by decide) (fun (h9 : (lr_in y (-1) 365) = true) => absurd (hl.symm.trans h9) (by decide)) (fun (h13 : (lr_in y (-1) 365) = false) => ?_)
  exact pm_throw (is := 195) (tx := "the last day is not from -1 to 365") pm_exIA rfl (by decide +kernel) rfl (by decide +kernel) (by decide +kernel) (by decide +kernel) (by decide +kernel) (by decide +kernel) (by decide) (by decide) (⟨rfl, rfl⟩)
set_option maxHeartbeats 4000000 in
set_option maxRecDepth 100000 in
theorem c_X9_hold {g : Nat → Int32} {c n : Nat} {F : Nat → Nat → Int32} {h : Nat} {y : Int32} (μ : pm_Mm) (hR : lr_Rel μ.1 1 g) (hG : lr_G g) (hh : h < lr_n g 35) (hl : lr_in y (-1) 365 = true) (hH : lr_Hs μ.1 c n F) : pm_CT mi_X9_hold [.ref 0, .int (nI h), .int y] μ (fun v μ2 => v = some (.int (g (37 + 4 * h))) ∧ lr_fc μ μ2 ∧ lr_Rel μ2.1 1 (upd g (37 + 4 * h) y) ∧ lr_Hs μ2.1 (min (c + 1) 8) ((n + 1) % 8) (lr_psh c F g)) pm_NX := by
  refine pm_CT_of (lo := [some (.ref 0), some (.int (nI h)), some (.int y), none]) (by decide +kernel) rfl rfl (by intro v hv; simp at hv; rcases hv with rfl | rfl | rfl <;> rfl) (Nat.le_of_ble_eq_true rfl) rfl ?_
  have hm1 := lr_mh hG; have hm2 := lr_mw hG; have hm3 := lr_mp hG; have hm4 := lr_mr hG; have hm5 := lr_ma hG; have hm6 := lr_ml hG
  refine pm_bl [(.aload_n 0, 1, 0, 0, 0), (.iload_n 1, 1, 1, 0, 0)] (pc1 := 2) (lo1 := [some (.ref 0), some (.int (nI h)), some (.int y), none]) (st1 := [.int (nI h), .ref 0]) (μ1 := μ) (vc := True) rfl (by decide +kernel) rfl trivial ?_
  refine pm_callV2 mi_X9_requirePerson (ix := 151) (b := 0) (ci := 9) (kc2 := 1) (ks2 := 6) (As := [.int (nI h)]) (rest := []) (c_X9_requirePerson (nI h) μ (by first | exact hR | exact hR1) hG (lr_be_1 hh (by omega))) cal_X9_requirePerson lk9_151 (by decide +kernel) rfl (by decide +kernel) rfl rfl rfl rfl (Nat.le_of_ble_eq_true rfl) (by decide) (by decide) (fun _ _ h9 => h9.elim) ?_
  rintro _ _ ⟨rfl, h9⟩; rw [h9]; clear h9
  show pm_V _ _ _ _ 5 _ [] _
  refine pm_bl [(.iload_n 2, 1, 2, 0, 0), (.iconst (-1), 1, 0, 0, (-1)), (.sipush 365, 3, 0, 0, 365)] (pc1 := 10) (lo1 := [some (.ref 0), some (.int (nI h)), some (.int y), none]) (st1 := [.int 365, .int (-1), .int y]) (μ1 := μ) (vc := True) rfl (by decide +kernel) rfl trivial ?_
  refine pm_callS2 mi_X9_isBetween (ix := 102) (kc2 := 1) (ks2 := 6) (As := [.int y, .int (-1), .int 365]) (rest := []) (c_X9_isBetween y (-1) 365 μ) cal_X9_isBetween lk9_102 (by decide +kernel) rfl (by decide +kernel) rfl rfl (Nat.le_of_ble_eq_true rfl) (by decide) (by decide) (fun _ _ h9 => h9.elim) ?_
  rintro _ _ ⟨rfl, h9⟩; rw [h9]; clear h9
  show pm_V _ _ _ _ 13 _ [.int (lr_b (lr_in y (-1) 365))] _
  refine pm_ifb_ne (off := 13) 26 (by decide +kernel) (by decide) (fun (h13 : (lr_in y (-1) 365) = true) => ?_) (fun (h9 : (lr_in y (-1) 365) = false) => absurd (hl.symm.trans h9) (by decide))
  refine pm_bl [(.aload_n 0, 1, 0, 0, 0), (.getfield 19, 3, 9, 1, 0), (.aload_n 0, 1, 0, 0, 0), (.getfield 10, 3, 9, 0, 0)] (pc1 := 34) (lo1 := [some (.ref 0), some (.int (nI h)), some (.int y), none]) (st1 := [.ref 1, .ref 45]) (μ1 := μ) (vc := True) rfl (by decide +kernel) rfl trivial ?_
  refine pm_callV2 mi_X2_keep (ix := 78) (b := 45) (ci := 2) (kc2 := 1) (ks2 := 6) (As := [.ref 1]) (rest := []) (c_X2_keep (c := c) (n := n) μ hR hG.B hH.2.1 hH.2.2.2.1 hH.2.2.1 hH.1) cal_X2_keep lk9_78 (by decide +kernel) rfl (by decide +kernel) rfl rfl rfl rfl (Nat.le_of_ble_eq_true rfl) (by decide) (by decide) (fun _ _ h9 => h9.elim) ?_
  rintro _ μ1 ⟨rfl, h2k, hfk, hRk, hck, hnk⟩
  obtain ⟨hFC, hR1, hH1⟩ := lr_keep_ok hR hH h2k hfk hRk hck hnk
  show pm_V _ _ _ _ 37 _ [] _
  refine pm_bl [(.aload_n 0, 1, 0, 0, 0), (.getfield 10, 3, 9, 0, 0), (.getfield 90, 3, 5, 1, 0), (.getfield 197, 3, 6, 2, 0), (.iload_n 1, 1, 1, 0, 0), (.iaload, 1, 0, 0, 0), (.istore_n 3, 1, 3, 0, 0), (.aload_n 0, 1, 0, 0, 0), (.getfield 10, 3, 9, 0, 0), (.getfield 90, 3, 5, 1, 0), (.getfield 197, 3, 6, 2, 0), (.iload_n 1, 1, 1, 0, 0), (.iload_n 2, 1, 2, 0, 0), (.iastore, 1, 0, 0, 0), (.iload_n 3, 1, 3, 0, 0)] (pc1 := 64) (lo1 := [some (.ref 0), some (.int (nI h)), some (.int y), some (.int (μ1.1 7 (nI h).toNatClampNeg))]) (st1 := [.int (μ1.1 7 (nI h).toNatClampNeg)]) (μ1 := pm_set μ1 7 ((nI h).toNatClampNeg) y) (vc := vp_in (nI h) 20 ∧ vp_in (nI h) 20 ∧ True) rfl (by decide +kernel) rfl ⟨(vp_in_nI (by omega) (by omega)), (vp_in_nI (by omega) (by omega)), trivial⟩ ?_
  first | rw [nI_clamp (n := h) (by omega), lr_rphe hR1 hh] | rw [lr_rphe hR1 hh]
  try rw [nI_clamp (n := h) (by omega)]
  exact pm_iret (ty := .int) rfl rfl (by decide) (by decide) (by decide +kernel) (⟨rfl, hFC.st (by omega) (by omega), lr_put_phe hR1 hG.B hh y, hH1.fr (fun i hi => pm_set_off (by omega))⟩)
set_option maxHeartbeats 4000000 in
set_option maxRecDepth 100000 in
theorem c_X9_setLimit_no1 {g : Nat → Int32} {x : Int32} (y : Int32) (μ : pm_Mm) (hR : lr_Rel μ.1 1 g) (hG : lr_G g) (hb : lr_be x (nI (lr_n g 35)) = false) : pm_CT mi_X9_setLimit [.ref 0, .int x, .int y] μ (fun _ _ => False) (fun E μ2 => E = "java/lang/IndexOutOfBoundsException" ∧ μ2 = μ) := by
  refine pm_CT_of (lo := [some (.ref 0), some (.int x), some (.int y), none]) (by decide +kernel) rfl rfl (by intro v hv; simp at hv; rcases hv with rfl | rfl | rfl <;> rfl) (Nat.le_of_ble_eq_true rfl) rfl ?_
  have hm1 := lr_mh hG; have hm2 := lr_mw hG; have hm3 := lr_mp hG; have hm4 := lr_mr hG; have hm5 := lr_ma hG; have hm6 := lr_ml hG
  refine pm_bl [(.aload_n 0, 1, 0, 0, 0), (.iload_n 1, 1, 1, 0, 0)] (pc1 := 2) (lo1 := [some (.ref 0), some (.int x), some (.int y), none]) (st1 := [.int x, .ref 0]) (μ1 := μ) (vc := True) rfl (by decide +kernel) rfl trivial ?_
  refine pm_callV2 mi_X9_requirePerson (ix := 151) (b := 0) (ci := 9) (kc2 := 1) (ks2 := 6) (As := [.int x]) (rest := []) (c_X9_requirePerson_no x μ hR hG hb) cal_X9_requirePerson lk9_151 (by decide +kernel) rfl (by decide +kernel) rfl rfl rfl rfl (Nat.le_of_ble_eq_true rfl) (by decide) (by decide) (fun E μ9 h9 => h9) ?_
  rintro _ _ h9; exact h9.elim
set_option maxHeartbeats 4000000 in
set_option maxRecDepth 100000 in
theorem c_X9_setLimit_no2 {g : Nat → Int32} {h : Nat} {y : Int32} (μ : pm_Mm) (hR : lr_Rel μ.1 1 g) (hG : lr_G g) (hh : h < lr_n g 35) (hl : lr_in y 0 9 = false) : pm_CT mi_X9_setLimit [.ref 0, .int (nI h), .int y] μ (fun _ _ => False) (fun E μ2 => E = "java/lang/IllegalArgumentException" ∧ μ2 = μ) := by
  refine pm_CT_of (lo := [some (.ref 0), some (.int (nI h)), some (.int y), none]) (by decide +kernel) rfl rfl (by intro v hv; simp at hv; rcases hv with rfl | rfl | rfl <;> rfl) (Nat.le_of_ble_eq_true rfl) rfl ?_
  have hm1 := lr_mh hG; have hm2 := lr_mw hG; have hm3 := lr_mp hG; have hm4 := lr_mr hG; have hm5 := lr_ma hG; have hm6 := lr_ml hG
  refine pm_bl [(.aload_n 0, 1, 0, 0, 0), (.iload_n 1, 1, 1, 0, 0)] (pc1 := 2) (lo1 := [some (.ref 0), some (.int (nI h)), some (.int y), none]) (st1 := [.int (nI h), .ref 0]) (μ1 := μ) (vc := True) rfl (by decide +kernel) rfl trivial ?_
  refine pm_callV2 mi_X9_requirePerson (ix := 151) (b := 0) (ci := 9) (kc2 := 1) (ks2 := 6) (As := [.int (nI h)]) (rest := []) (c_X9_requirePerson (nI h) μ (by first | exact hR | exact hR1) hG (lr_be_1 hh (by omega))) cal_X9_requirePerson lk9_151 (by decide +kernel) rfl (by decide +kernel) rfl rfl rfl rfl (Nat.le_of_ble_eq_true rfl) (by decide) (by decide) (fun _ _ h9 => h9.elim) ?_
  rintro _ _ ⟨rfl, h9⟩; rw [h9]; clear h9
  show pm_V _ _ _ _ 5 _ [] _
  refine pm_bl [(.iload_n 2, 1, 2, 0, 0), (.iconst 0, 1, 0, 0, 0), (.bipush 9, 2, 0, 0, 9)] (pc1 := 9) (lo1 := [some (.ref 0), some (.int (nI h)), some (.int y), none]) (st1 := [.int 9, .int 0, .int y]) (μ1 := μ) (vc := True) rfl (by decide +kernel) rfl trivial ?_
  refine pm_callS2 mi_X9_isBetween (ix := 102) (kc2 := 1) (ks2 := 6) (As := [.int y, .int 0, .int 9]) (rest := []) (c_X9_isBetween y 0 9 μ) cal_X9_isBetween lk9_102 (by decide +kernel) rfl (by decide +kernel) rfl rfl (Nat.le_of_ble_eq_true rfl) (by decide) (by decide) (fun _ _ h9 => h9.elim) ?_
  rintro _ _ ⟨rfl, h9⟩; rw [h9]; clear h9
  show pm_V _ _ _ _ 12 _ [.int (lr_b (lr_in y 0 9))] _
  refine pm_ifb_ne (off := 13) 25 (by decide +kernel) (by decide) (fun (h9 : (lr_in y 0 9) = true) => absurd (hl.symm.trans h9) (by decide)) (fun (h12 : (lr_in y 0 9) = false) => ?_)
  exact pm_throw (is := 210) (tx := "the limit is out of range") pm_exIA rfl (by decide +kernel) rfl (by decide +kernel) (by decide +kernel) (by decide +kernel) (by decide +kernel) (by decide +kernel) (by decide) (by decide) (⟨rfl, rfl⟩)
set_option maxHeartbeats 4000000 in
set_option maxRecDepth 100000 in
theorem c_X9_setLimit {g : Nat → Int32} {c n : Nat} {F : Nat → Nat → Int32} {h : Nat} {y : Int32} (μ : pm_Mm) (hR : lr_Rel μ.1 1 g) (hG : lr_G g) (hh : h < lr_n g 35) (hl : lr_in y 0 9 = true) (hH : lr_Hs μ.1 c n F) : pm_CT mi_X9_setLimit [.ref 0, .int (nI h), .int y] μ (fun v μ2 => v = some (.int (g (38 + 4 * h))) ∧ lr_fc μ μ2 ∧ lr_Rel μ2.1 1 (upd g (38 + 4 * h) y) ∧ lr_Hs μ2.1 (min (c + 1) 8) ((n + 1) % 8) (lr_psh c F g)) pm_NX := by
  refine pm_CT_of (lo := [some (.ref 0), some (.int (nI h)), some (.int y), none]) (by decide +kernel) rfl rfl (by intro v hv; simp at hv; rcases hv with rfl | rfl | rfl <;> rfl) (Nat.le_of_ble_eq_true rfl) rfl ?_
  have hm1 := lr_mh hG; have hm2 := lr_mw hG; have hm3 := lr_mp hG; have hm4 := lr_mr hG; have hm5 := lr_ma hG; have hm6 := lr_ml hG
  refine pm_bl [(.aload_n 0, 1, 0, 0, 0), (.iload_n 1, 1, 1, 0, 0)] (pc1 := 2) (lo1 := [some (.ref 0), some (.int (nI h)), some (.int y), none]) (st1 := [.int (nI h), .ref 0]) (μ1 := μ) (vc := True) rfl (by decide +kernel) rfl trivial ?_
  refine pm_callV2 mi_X9_requirePerson (ix := 151) (b := 0) (ci := 9) (kc2 := 1) (ks2 := 6) (As := [.int (nI h)]) (rest := []) (c_X9_requirePerson (nI h) μ (by first | exact hR | exact hR1) hG (lr_be_1 hh (by omega))) cal_X9_requirePerson lk9_151 (by decide +kernel) rfl (by decide +kernel) rfl rfl rfl rfl (Nat.le_of_ble_eq_true rfl) (by decide) (by decide) (fun _ _ h9 => h9.elim) ?_
  rintro _ _ ⟨rfl, h9⟩; rw [h9]; clear h9
  show pm_V _ _ _ _ 5 _ [] _
  refine pm_bl [(.iload_n 2, 1, 2, 0, 0), (.iconst 0, 1, 0, 0, 0), (.bipush 9, 2, 0, 0, 9)] (pc1 := 9) (lo1 := [some (.ref 0), some (.int (nI h)), some (.int y), none]) (st1 := [.int 9, .int 0, .int y]) (μ1 := μ) (vc := True) rfl (by decide +kernel) rfl trivial ?_
  refine pm_callS2 mi_X9_isBetween (ix := 102) (kc2 := 1) (ks2 := 6) (As := [.int y, .int 0, .int 9]) (rest := []) (c_X9_isBetween y 0 9 μ) cal_X9_isBetween lk9_102 (by decide +kernel) rfl (by decide +kernel) rfl rfl (Nat.le_of_ble_eq_true rfl) (by decide) (by decide) (fun _ _ h9 => h9.elim) ?_
  rintro _ _ ⟨rfl, h9⟩; rw [h9]; clear h9
  show pm_V _ _ _ _ 12 _ [.int (lr_b (lr_in y 0 9))] _
  refine pm_ifb_ne (off := 13) 25 (by decide +kernel) (by decide) (fun (h12 : (lr_in y 0 9) = true) => ?_) (fun (h9 : (lr_in y 0 9) = false) => absurd (hl.symm.trans h9) (by decide))
  refine pm_bl [(.aload_n 0, 1, 0, 0, 0), (.getfield 19, 3, 9, 1, 0), (.aload_n 0, 1, 0, 0, 0), (.getfield 10, 3, 9, 0, 0)] (pc1 := 33) (lo1 := [some (.ref 0), some (.int (nI h)), some (.int y), none]) (st1 := [.ref 1, .ref 45]) (μ1 := μ) (vc := True) rfl (by decide +kernel) rfl trivial ?_
  refine pm_callV2 mi_X2_keep (ix := 78) (b := 45) (ci := 2) (kc2 := 1) (ks2 := 6) (As := [.ref 1]) (rest := []) (c_X2_keep (c := c) (n := n) μ hR hG.B hH.2.1 hH.2.2.2.1 hH.2.2.1 hH.1) cal_X2_keep lk9_78 (by decide +kernel) rfl (by decide +kernel) rfl rfl rfl rfl (Nat.le_of_ble_eq_true rfl) (by decide) (by decide) (fun _ _ h9 => h9.elim) ?_
  rintro _ μ1 ⟨rfl, h2k, hfk, hRk, hck, hnk⟩
  obtain ⟨hFC, hR1, hH1⟩ := lr_keep_ok hR hH h2k hfk hRk hck hnk
  show pm_V _ _ _ _ 36 _ [] _
  refine pm_bl [(.aload_n 0, 1, 0, 0, 0), (.getfield 10, 3, 9, 0, 0), (.getfield 90, 3, 5, 1, 0), (.getfield 212, 3, 6, 3, 0), (.iload_n 1, 1, 1, 0, 0), (.iaload, 1, 0, 0, 0), (.istore_n 3, 1, 3, 0, 0), (.aload_n 0, 1, 0, 0, 0), (.getfield 10, 3, 9, 0, 0), (.getfield 90, 3, 5, 1, 0), (.getfield 212, 3, 6, 3, 0), (.iload_n 1, 1, 1, 0, 0), (.iload_n 2, 1, 2, 0, 0), (.iastore, 1, 0, 0, 0), (.iload_n 3, 1, 3, 0, 0)] (pc1 := 63) (lo1 := [some (.ref 0), some (.int (nI h)), some (.int y), some (.int (μ1.1 8 (nI h).toNatClampNeg))]) (st1 := [.int (μ1.1 8 (nI h).toNatClampNeg)]) (μ1 := pm_set μ1 8 ((nI h).toNatClampNeg) y) (vc := vp_in (nI h) 20 ∧ vp_in (nI h) 20 ∧ True) rfl (by decide +kernel) rfl ⟨(vp_in_nI (by omega) (by omega)), (vp_in_nI (by omega) (by omega)), trivial⟩ ?_
  first | rw [nI_clamp (n := h) (by omega), lr_rpli hR1 hh] | rw [lr_rpli hR1 hh]
  try rw [nI_clamp (n := h) (by omega)]
  exact pm_iret (ty := .int) rfl rfl (by decide) (by decide) (by decide +kernel) (⟨rfl, hFC.st (by omega) (by omega), lr_put_pli hR1 hG.B hh y, hH1.fr (fun i hi => pm_set_off (by omega))⟩)
set_option maxHeartbeats 4000000 in
set_option maxRecDepth 100000 in
theorem c_X9_allow_no1 {g : Nat → Int32} {x : Int32} (y z : Int32) (μ : pm_Mm) (hR : lr_Rel μ.1 1 g) (hG : lr_G g) (hb : lr_be x (nI (lr_n g 35)) = false) : pm_CT mi_X9_allow [.ref 0, .int x, .int y, .int z] μ (fun _ _ => False) (fun E μ2 => E = "java/lang/IndexOutOfBoundsException" ∧ μ2 = μ) := by
  refine pm_CT_of (lo := [some (.ref 0), some (.int x), some (.int y), some (.int z), none]) (by decide +kernel) rfl rfl (by intro v hv; simp at hv; rcases hv with rfl | rfl | rfl | rfl <;> rfl) (Nat.le_of_ble_eq_true rfl) rfl ?_
  have hm1 := lr_mh hG; have hm2 := lr_mw hG; have hm3 := lr_mp hG; have hm4 := lr_mr hG; have hm5 := lr_ma hG; have hm6 := lr_ml hG
  refine pm_bl [(.aload_n 0, 1, 0, 0, 0), (.iload_n 1, 1, 1, 0, 0)] (pc1 := 2) (lo1 := [some (.ref 0), some (.int x), some (.int y), some (.int z), none]) (st1 := [.int x, .ref 0]) (μ1 := μ) (vc := True) rfl (by decide +kernel) rfl trivial ?_
  refine pm_callV2 mi_X9_requirePerson (ix := 151) (b := 0) (ci := 9) (kc2 := 1) (ks2 := 6) (As := [.int x]) (rest := []) (c_X9_requirePerson_no x μ hR hG hb) cal_X9_requirePerson lk9_151 (by decide +kernel) rfl (by decide +kernel) rfl rfl rfl rfl (Nat.le_of_ble_eq_true rfl) (by decide) (by decide) (fun E μ9 h9 => h9) ?_
  rintro _ _ h9; exact h9.elim
set_option maxHeartbeats 4000000 in
set_option maxRecDepth 100000 in
theorem c_X9_allow_no1b {g : Nat → Int32} {h : Nat} {x : Int32} (z : Int32) (μ : pm_Mm) (hR : lr_Rel μ.1 1 g) (hG : lr_G g) (hh : h < lr_n g 35) (hb : lr_be x (nI (lr_n g 35)) = false) : pm_CT mi_X9_allow [.ref 0, .int (nI h), .int x, .int z] μ (fun _ _ => False) (fun E μ2 => E = "java/lang/IndexOutOfBoundsException" ∧ μ2 = μ) := by
  refine pm_CT_of (lo := [some (.ref 0), some (.int (nI h)), some (.int x), some (.int z), none]) (by decide +kernel) rfl rfl (by intro v hv; simp at hv; rcases hv with rfl | rfl | rfl | rfl <;> rfl) (Nat.le_of_ble_eq_true rfl) rfl ?_
  have hm1 := lr_mh hG; have hm2 := lr_mw hG; have hm3 := lr_mp hG; have hm4 := lr_mr hG; have hm5 := lr_ma hG; have hm6 := lr_ml hG
  refine pm_bl [(.aload_n 0, 1, 0, 0, 0), (.iload_n 1, 1, 1, 0, 0)] (pc1 := 2) (lo1 := [some (.ref 0), some (.int (nI h)), some (.int x), some (.int z), none]) (st1 := [.int (nI h), .ref 0]) (μ1 := μ) (vc := True) rfl (by decide +kernel) rfl trivial ?_
  refine pm_callV2 mi_X9_requirePerson (ix := 151) (b := 0) (ci := 9) (kc2 := 1) (ks2 := 6) (As := [.int (nI h)]) (rest := []) (c_X9_requirePerson (nI h) μ (by first | exact hR | exact hR1) hG (lr_be_1 hh (by omega))) cal_X9_requirePerson lk9_151 (by decide +kernel) rfl (by decide +kernel) rfl rfl rfl rfl (Nat.le_of_ble_eq_true rfl) (by decide) (by decide) (fun _ _ h9 => h9.elim) ?_
  rintro _ _ ⟨rfl, h9⟩; rw [h9]; clear h9
  show pm_V _ _ _ _ 5 _ [] _
  refine pm_bl [(.aload_n 0, 1, 0, 0, 0), (.iload_n 2, 1, 2, 0, 0)] (pc1 := 7) (lo1 := [some (.ref 0), some (.int (nI h)), some (.int x), some (.int z), none]) (st1 := [.int x, .ref 0]) (μ1 := μ) (vc := True) rfl (by decide +kernel) rfl trivial ?_
  refine pm_callV2 mi_X9_requirePerson (ix := 151) (b := 0) (ci := 9) (kc2 := 2) (ks2 := 12) (As := [.int x]) (rest := []) (c_X9_requirePerson_no x μ hR hG hb) cal_X9_requirePerson lk9_151 (by decide +kernel) rfl (by decide +kernel) rfl rfl rfl rfl (Nat.le_of_ble_eq_true rfl) (by decide) (by decide) (fun E μ9 h9 => h9) ?_
  rintro _ _ h9; exact h9.elim
set_option maxHeartbeats 4000000 in
set_option maxRecDepth 100000 in
theorem c_X9_allow_no2 {g : Nat → Int32} {h : Nat} (z : Int32) (μ : pm_Mm) (hR : lr_Rel μ.1 1 g) (hG : lr_G g) (hh : h < lr_n g 35) : pm_CT mi_X9_allow [.ref 0, .int (nI h), .int (nI h), .int z] μ (fun _ _ => False) (fun E μ2 => E = "java/lang/IllegalArgumentException" ∧ μ2 = μ) := by
  refine pm_CT_of (lo := [some (.ref 0), some (.int (nI h)), some (.int (nI h)), some (.int z), none]) (by decide +kernel) rfl rfl (by intro v hv; simp at hv; rcases hv with rfl | rfl | rfl | rfl <;> rfl) (Nat.le_of_ble_eq_true rfl) rfl ?_
  have hm1 := lr_mh hG; have hm2 := lr_mw hG; have hm3 := lr_mp hG; have hm4 := lr_mr hG; have hm5 := lr_ma hG; have hm6 := lr_ml hG
  refine pm_bl [(.aload_n 0, 1, 0, 0, 0), (.iload_n 1, 1, 1, 0, 0)] (pc1 := 2) (lo1 := [some (.ref 0), some (.int (nI h)), some (.int (nI h)), some (.int z), none]) (st1 := [.int (nI h), .ref 0]) (μ1 := μ) (vc := True) rfl (by decide +kernel) rfl trivial ?_
  refine pm_callV2 mi_X9_requirePerson (ix := 151) (b := 0) (ci := 9) (kc2 := 1) (ks2 := 6) (As := [.int (nI h)]) (rest := []) (c_X9_requirePerson (nI h) μ (by first | exact hR | exact hR1) hG (lr_be_1 hh (by omega))) cal_X9_requirePerson lk9_151 (by decide +kernel) rfl (by decide +kernel) rfl rfl rfl rfl (Nat.le_of_ble_eq_true rfl) (by decide) (by decide) (fun _ _ h9 => h9.elim) ?_
  rintro _ _ ⟨rfl, h9⟩; rw [h9]; clear h9
  show pm_V _ _ _ _ 5 _ [] _
  refine pm_bl [(.aload_n 0, 1, 0, 0, 0), (.iload_n 2, 1, 2, 0, 0)] (pc1 := 7) (lo1 := [some (.ref 0), some (.int (nI h)), some (.int (nI h)), some (.int z), none]) (st1 := [.int (nI h), .ref 0]) (μ1 := μ) (vc := True) rfl (by decide +kernel) rfl trivial ?_
  refine pm_callV2 mi_X9_requirePerson (ix := 151) (b := 0) (ci := 9) (kc2 := 2) (ks2 := 12) (As := [.int (nI h)]) (rest := []) (c_X9_requirePerson (nI h) μ (by first | exact hR | exact hR1) hG (lr_be_1 hh (by omega))) cal_X9_requirePerson lk9_151 (by decide +kernel) rfl (by decide +kernel) rfl rfl rfl rfl (Nat.le_of_ble_eq_true rfl) (by decide) (by decide) (fun _ _ h9 => h9.elim) ?_
  rintro _ _ ⟨rfl, h9⟩; rw [h9]; clear h9
  show pm_V _ _ _ _ 10 _ [] _
  refine pm_bl [(.iload_n 1, 1, 1, 0, 0), (.iload_n 2, 1, 2, 0, 0)] (pc1 := 12) (lo1 := [some (.ref 0), some (.int (nI h)), some (.int (nI h)), some (.int z), none]) (st1 := [.int (nI h), .int (nI h)]) (μ1 := μ) (vc := True) rfl (by decide +kernel) rfl trivial ?_
  refine pm_icmp_ne (off := 13) 25 (by decide +kernel) (by decide) (fun (h9 : ¬ (nI h) = (nI h)) => absurd rfl h9) (fun (h12 : (nI h) = (nI h)) => ?_)
  exact pm_throw (is := 201) (tx := "both persons are the same") pm_exIA rfl (by decide +kernel) rfl (by decide +kernel) (by decide +kernel) (by decide +kernel) (by decide +kernel) (by decide +kernel) (by decide) (by decide) (⟨rfl, rfl⟩)
set_option maxHeartbeats 4000000 in
set_option maxRecDepth 100000 in
theorem c_X9_allow {g : Nat → Int32} {c n : Nat} {F : Nat → Nat → Int32} {h q : Nat} (z : Int32) (μ : pm_Mm) (hR : lr_Rel μ.1 1 g) (hG : lr_G g) (hh : h < lr_n g 35) (hq2 : q < lr_n g 35) (hne : h ≠ q) (hH : lr_Hs μ.1 c n F) : pm_CT mi_X9_allow [.ref 0, .int (nI h), .int (nI q), .int z] μ (fun v μ2 => v = some (.int (lr_b (lr_al g h (nI q)))) ∧ lr_fc μ μ2 ∧ lr_Rel μ2.1 1 (upd g (39 + 4 * h) (if z = 0 then g (39 + 4 * h) &&& ((1 <<< (nI q &&& 31)) ^^^ (-1)) else g (39 + 4 * h) ||| (1 <<< (nI q &&& 31)))) ∧ lr_Hs μ2.1 (min (c + 1) 8) ((n + 1) % 8) (lr_psh c F g)) pm_NX := by
  refine pm_CT_of (lo := [some (.ref 0), some (.int (nI h)), some (.int (nI q)), some (.int z), none]) (by decide +kernel) rfl rfl (by intro v hv; simp at hv; rcases hv with rfl | rfl | rfl | rfl <;> rfl) (Nat.le_of_ble_eq_true rfl) rfl ?_
  have hm1 := lr_mh hG; have hm2 := lr_mw hG; have hm3 := lr_mp hG; have hm4 := lr_mr hG; have hm5 := lr_ma hG; have hm6 := lr_ml hG
  refine pm_bl [(.aload_n 0, 1, 0, 0, 0), (.iload_n 1, 1, 1, 0, 0)] (pc1 := 2) (lo1 := [some (.ref 0), some (.int (nI h)), some (.int (nI q)), some (.int z), none]) (st1 := [.int (nI h), .ref 0]) (μ1 := μ) (vc := True) rfl (by decide +kernel) rfl trivial ?_
  refine pm_callV2 mi_X9_requirePerson (ix := 151) (b := 0) (ci := 9) (kc2 := 1) (ks2 := 6) (As := [.int (nI h)]) (rest := []) (c_X9_requirePerson (nI h) μ (by first | exact hR | exact hR1) hG (lr_be_1 hh (by omega))) cal_X9_requirePerson lk9_151 (by decide +kernel) rfl (by decide +kernel) rfl rfl rfl rfl (Nat.le_of_ble_eq_true rfl) (by decide) (by decide) (fun _ _ h9 => h9.elim) ?_
  rintro _ _ ⟨rfl, h9⟩; rw [h9]; clear h9
  show pm_V _ _ _ _ 5 _ [] _
  refine pm_bl [(.aload_n 0, 1, 0, 0, 0), (.iload_n 2, 1, 2, 0, 0)] (pc1 := 7) (lo1 := [some (.ref 0), some (.int (nI h)), some (.int (nI q)), some (.int z), none]) (st1 := [.int (nI q), .ref 0]) (μ1 := μ) (vc := True) rfl (by decide +kernel) rfl trivial ?_
  refine pm_callV2 mi_X9_requirePerson (ix := 151) (b := 0) (ci := 9) (kc2 := 2) (ks2 := 12) (As := [.int (nI q)]) (rest := []) (c_X9_requirePerson (nI q) μ (by first | exact hR | exact hR1) hG (lr_be_1 hq2 (by omega))) cal_X9_requirePerson lk9_151 (by decide +kernel) rfl (by decide +kernel) rfl rfl rfl rfl (Nat.le_of_ble_eq_true rfl) (by decide) (by decide) (fun _ _ h9 => h9.elim) ?_
  rintro _ _ ⟨rfl, h9⟩; rw [h9]; clear h9
  show pm_V _ _ _ _ 10 _ [] _
  refine pm_bl [(.iload_n 1, 1, 1, 0, 0), (.iload_n 2, 1, 2, 0, 0)] (pc1 := 12) (lo1 := [some (.ref 0), some (.int (nI h)), some (.int (nI q)), some (.int z), none]) (st1 := [.int (nI q), .int (nI h)]) (μ1 := μ) (vc := True) rfl (by decide +kernel) rfl trivial ?_
  refine pm_icmp_ne (off := 13) 25 (by decide +kernel) (by decide) (fun (h12 : ¬ (nI h) = (nI q)) => ?_) (fun (h9 : (nI h) = (nI q)) => absurd ((nI_eq (by omega) (by omega)).mp h9) hne)
  refine pm_bl [(.aload_n 0, 1, 0, 0, 0), (.getfield 19, 3, 9, 1, 0), (.aload_n 0, 1, 0, 0, 0), (.getfield 10, 3, 9, 0, 0)] (pc1 := 33) (lo1 := [some (.ref 0), some (.int (nI h)), some (.int (nI q)), some (.int z), none]) (st1 := [.ref 1, .ref 45]) (μ1 := μ) (vc := True) rfl (by decide +kernel) rfl trivial ?_
  refine pm_callV2 mi_X2_keep (ix := 78) (b := 45) (ci := 2) (kc2 := 2) (ks2 := 12) (As := [.ref 1]) (rest := []) (c_X2_keep (c := c) (n := n) μ hR hG.B hH.2.1 hH.2.2.2.1 hH.2.2.1 hH.1) cal_X2_keep lk9_78 (by decide +kernel) rfl (by decide +kernel) rfl rfl rfl rfl (Nat.le_of_ble_eq_true rfl) (by decide) (by decide) (fun _ _ h9 => h9.elim) ?_
  rintro _ μ1 ⟨rfl, h2k, hfk, hRk, hck, hnk⟩
  obtain ⟨hFC, hR1, hH1⟩ := lr_keep_ok hR hH h2k hfk hRk hck hnk
  show pm_V _ _ _ _ 36 _ [] _
  refine pm_bl [(.aload_n 0, 1, 0, 0, 0), (.getfield 10, 3, 9, 0, 0), (.getfield 90, 3, 5, 1, 0), (.iload_n 1, 1, 1, 0, 0), (.iload_n 2, 1, 2, 0, 0)] (pc1 := 45) (lo1 := [some (.ref 0), some (.int (nI h)), some (.int (nI q)), some (.int z), none]) (st1 := [.int (nI q), .int (nI h), .ref 5]) (μ1 := μ1) (vc := True) rfl (by decide +kernel) rfl trivial ?_
  refine pm_callV2 mi_X6_hasAllowed (ix := 203) (b := 5) (ci := 6) (kc2 := 2) (ks2 := 12) (As := [.int (nI h), .int (nI q)]) (rest := []) (c_X6_hasAllowed (p := h) (nI q) μ1 hR1 hG hh) cal_X6_hasAllowed lk9_203 (by decide +kernel) rfl (by decide +kernel) rfl rfl rfl rfl (Nat.le_of_ble_eq_true rfl) (by decide) (by decide) (fun _ _ h9 => h9.elim) ?_
  rintro _ _ ⟨rfl, h9⟩; rw [h9]; clear h9
  show pm_V _ _ _ _ 48 _ [.int (lr_b (lr_al g h (nI q)))] _
  refine pm_bl [(.istore 4, 2, 4, 0, 0), (.aload_n 0, 1, 0, 0, 0), (.getfield 10, 3, 9, 0, 0), (.getfield 90, 3, 5, 1, 0), (.iload_n 1, 1, 1, 0, 0), (.iload_n 2, 1, 2, 0, 0), (.iload_n 3, 1, 3, 0, 0)] (pc1 := 60) (lo1 := [some (.ref 0), some (.int (nI h)), some (.int (nI q)), some (.int z), some (.int (lr_b (lr_al g h (nI q))))]) (st1 := [.int z, .int (nI q), .int (nI h), .ref 5]) (μ1 := μ1) (vc := True) rfl (by decide +kernel) rfl trivial ?_
  refine pm_callV2 mi_X6_setAllowed (ix := 206) (b := 5) (ci := 6) (kc2 := 2) (ks2 := 12) (As := [.int (nI h), .int (nI q), .int z]) (rest := []) (c_X6_setAllowed (p := h) (nI q) z μ1 hR1 hG.B (lr_gp hG) hh) cal_X6_setAllowed lk9_206 (by decide +kernel) rfl (by decide +kernel) rfl rfl rfl rfl (Nat.le_of_ble_eq_true rfl) (by decide) (by decide) (fun _ _ h9 => h9.elim) ?_
  rintro _ μ3 ⟨rfl, hf3, hR3⟩
  show pm_V _ _ _ _ 63 _ [] _
  refine pm_bl [(.iload 4, 2, 4, 0, 0)] (pc1 := 65) (lo1 := [some (.ref 0), some (.int (nI h)), some (.int (nI q)), some (.int z), some (.int (lr_b (lr_al g h (nI q))))]) (st1 := [.int (lr_b (lr_al g h (nI q)))]) (μ1 := μ3) (vc := True) rfl (by decide +kernel) rfl trivial ?_
  exact pm_iret (ty := .boolean) rfl (lr_bnar _) (by decide) (by decide) (by decide +kernel) (⟨rfl, hFC.tr hf3, hR3, hH1.fr (fun i hi => hf3.1 i (by omega))⟩)
set_option maxHeartbeats 4000000 in
set_option maxRecDepth 100000 in
theorem c_X9_leave_no1 {g : Nat → Int32} {x : Int32} (y z : Int32) (μ : pm_Mm) (hR : lr_Rel μ.1 1 g) (hG : lr_G g) (hb : lr_be x (nI (lr_n g 35)) = false) : pm_CT mi_X9_leave [.ref 0, .int x, .int y, .int z] μ (fun _ _ => False) (fun E μ2 => E = "java/lang/IndexOutOfBoundsException" ∧ μ2 = μ) := by
  refine pm_CT_of (lo := [some (.ref 0), some (.int x), some (.int y), some (.int z)]) (by decide +kernel) rfl rfl (by intro v hv; simp at hv; rcases hv with rfl | rfl | rfl | rfl <;> rfl) (Nat.le_of_ble_eq_true rfl) rfl ?_
  have hm1 := lr_mh hG; have hm2 := lr_mw hG; have hm3 := lr_mp hG; have hm4 := lr_mr hG; have hm5 := lr_ma hG; have hm6 := lr_ml hG
  refine pm_bl [(.aload_n 0, 1, 0, 0, 0), (.iload_n 1, 1, 1, 0, 0)] (pc1 := 2) (lo1 := [some (.ref 0), some (.int x), some (.int y), some (.int z)]) (st1 := [.int x, .ref 0]) (μ1 := μ) (vc := True) rfl (by decide +kernel) rfl trivial ?_
  refine pm_callV2 mi_X9_requirePerson (ix := 151) (b := 0) (ci := 9) (kc2 := 1) (ks2 := 6) (As := [.int x]) (rest := []) (c_X9_requirePerson_no x μ hR hG hb) cal_X9_requirePerson lk9_151 (by decide +kernel) rfl (by decide +kernel) rfl rfl rfl rfl (Nat.le_of_ble_eq_true rfl) (by decide) (by decide) (fun E μ9 h9 => h9) ?_
  rintro _ _ h9; exact h9.elim
set_option maxHeartbeats 4000000 in
set_option maxRecDepth 100000 in
theorem c_X9_leave_no2 {g : Nat → Int32} {h : Nat} {y z : Int32} (μ : pm_Mm) (hR : lr_Rel μ.1 1 g) (hG : lr_G g) (hh : h < lr_n g 35) (hl : lr_dys y z = false) : pm_CT mi_X9_leave [.ref 0, .int (nI h), .int y, .int z] μ (fun _ _ => False) (fun E μ2 => E = "java/lang/IllegalArgumentException" ∧ μ2 = μ) := by
  refine pm_CT_of (lo := [some (.ref 0), some (.int (nI h)), some (.int y), some (.int z)]) (by decide +kernel) rfl rfl (by intro v hv; simp at hv; rcases hv with rfl | rfl | rfl | rfl <;> rfl) (Nat.le_of_ble_eq_true rfl) rfl ?_
  have hm1 := lr_mh hG; have hm2 := lr_mw hG; have hm3 := lr_mp hG; have hm4 := lr_mr hG; have hm5 := lr_ma hG; have hm6 := lr_ml hG
  refine pm_bl [(.aload_n 0, 1, 0, 0, 0), (.iload_n 1, 1, 1, 0, 0)] (pc1 := 2) (lo1 := [some (.ref 0), some (.int (nI h)), some (.int y), some (.int z)]) (st1 := [.int (nI h), .ref 0]) (μ1 := μ) (vc := True) rfl (by decide +kernel) rfl trivial ?_
  refine pm_callV2 mi_X9_requirePerson (ix := 151) (b := 0) (ci := 9) (kc2 := 1) (ks2 := 6) (As := [.int (nI h)]) (rest := []) (c_X9_requirePerson (nI h) μ (by first | exact hR | exact hR1) hG (lr_be_1 hh (by omega))) cal_X9_requirePerson lk9_151 (by decide +kernel) rfl (by decide +kernel) rfl rfl rfl rfl (Nat.le_of_ble_eq_true rfl) (by decide) (by decide) (fun _ _ h9 => h9.elim) ?_
  rintro _ _ ⟨rfl, h9⟩; rw [h9]; clear h9
  show pm_V _ _ _ _ 5 _ [] _
  refine pm_bl [(.iload_n 2, 1, 2, 0, 0), (.iload_n 3, 1, 3, 0, 0)] (pc1 := 7) (lo1 := [some (.ref 0), some (.int (nI h)), some (.int y), some (.int z)]) (st1 := [.int z, .int y]) (μ1 := μ) (vc := True) rfl (by decide +kernel) rfl trivial ?_
  refine pm_callS2 mi_X9_requireDays (ix := 154) (kc2 := 2) (ks2 := 12) (As := [.int y, .int z]) (rest := []) (c_X9_requireDays_no y z μ hl) cal_X9_requireDays lk9_154 (by decide +kernel) rfl (by decide +kernel) rfl rfl (Nat.le_of_ble_eq_true rfl) (by decide) (by decide) (fun E μ9 h9 => h9) ?_
  rintro _ _ h9; exact h9.elim
set_option maxHeartbeats 4000000 in
set_option maxRecDepth 100000 in
theorem c_X9_leave {g : Nat → Int32} {c n : Nat} {F : Nat → Nat → Int32} {h : Nat} {y z : Int32} (μ : pm_Mm) (hR : lr_Rel μ.1 1 g) (hG : lr_G g) (hh : h < lr_n g 35) (hl : lr_dys y z = true) (hH : lr_Hs μ.1 c n F) : pm_CT mi_X9_leave [.ref 0, .int (nI h), .int y, .int z] μ (fun v μ2 => v = some (.int (lr_gabs2 g (nI h) y z 228)) ∧ lr_fc μ μ2 ∧ lr_Rel μ2.1 1 (lr_gabs2 g (nI h) y z) ∧ lr_Hs μ2.1 (min (c + 1) 8) ((n + 1) % 8) (lr_psh c F g)) pm_NX := by
  refine pm_CT_of (lo := [some (.ref 0), some (.int (nI h)), some (.int y), some (.int z)]) (by decide +kernel) rfl rfl (by intro v hv; simp at hv; rcases hv with rfl | rfl | rfl | rfl <;> rfl) (Nat.le_of_ble_eq_true rfl) rfl ?_
  have hm1 := lr_mh hG; have hm2 := lr_mw hG; have hm3 := lr_mp hG; have hm4 := lr_mr hG; have hm5 := lr_ma hG; have hm6 := lr_ml hG
  refine pm_bl [(.aload_n 0, 1, 0, 0, 0), (.iload_n 1, 1, 1, 0, 0)] (pc1 := 2) (lo1 := [some (.ref 0), some (.int (nI h)), some (.int y), some (.int z)]) (st1 := [.int (nI h), .ref 0]) (μ1 := μ) (vc := True) rfl (by decide +kernel) rfl trivial ?_
  refine pm_callV2 mi_X9_requirePerson (ix := 151) (b := 0) (ci := 9) (kc2 := 1) (ks2 := 6) (As := [.int (nI h)]) (rest := []) (c_X9_requirePerson (nI h) μ (by first | exact hR | exact hR1) hG (lr_be_1 hh (by omega))) cal_X9_requirePerson lk9_151 (by decide +kernel) rfl (by decide +kernel) rfl rfl rfl rfl (Nat.le_of_ble_eq_true rfl) (by decide) (by decide) (fun _ _ h9 => h9.elim) ?_
  rintro _ _ ⟨rfl, h9⟩; rw [h9]; clear h9
  show pm_V _ _ _ _ 5 _ [] _
  refine pm_bl [(.iload_n 2, 1, 2, 0, 0), (.iload_n 3, 1, 3, 0, 0)] (pc1 := 7) (lo1 := [some (.ref 0), some (.int (nI h)), some (.int y), some (.int z)]) (st1 := [.int z, .int y]) (μ1 := μ) (vc := True) rfl (by decide +kernel) rfl trivial ?_
  refine pm_callS2 mi_X9_requireDays (ix := 154) (kc2 := 2) (ks2 := 12) (As := [.int y, .int z]) (rest := []) (c_X9_requireDays y z μ hl) cal_X9_requireDays lk9_154 (by decide +kernel) rfl (by decide +kernel) rfl rfl (Nat.le_of_ble_eq_true rfl) (by decide) (by decide) (fun _ _ h9 => h9.elim) ?_
  rintro _ _ ⟨rfl, h9⟩; rw [h9]; clear h9
  show pm_V _ _ _ _ 10 _ [] _
  refine pm_bl [(.aload_n 0, 1, 0, 0, 0), (.getfield 19, 3, 9, 1, 0), (.aload_n 0, 1, 0, 0, 0), (.getfield 10, 3, 9, 0, 0)] (pc1 := 18) (lo1 := [some (.ref 0), some (.int (nI h)), some (.int y), some (.int z)]) (st1 := [.ref 1, .ref 45]) (μ1 := μ) (vc := True) rfl (by decide +kernel) rfl trivial ?_
  refine pm_callV2 mi_X2_keep (ix := 78) (b := 45) (ci := 2) (kc2 := 2) (ks2 := 12) (As := [.ref 1]) (rest := []) (c_X2_keep (c := c) (n := n) μ hR hG.B hH.2.1 hH.2.2.2.1 hH.2.2.1 hH.1) cal_X2_keep lk9_78 (by decide +kernel) rfl (by decide +kernel) rfl rfl rfl rfl (Nat.le_of_ble_eq_true rfl) (by decide) (by decide) (fun _ _ h9 => h9.elim) ?_
  rintro _ μ1 ⟨rfl, h2k, hfk, hRk, hck, hnk⟩
  obtain ⟨hFC, hR1, hH1⟩ := lr_keep_ok hR hH h2k hfk hRk hck hnk
  show pm_V _ _ _ _ 21 _ [] _
  refine pm_bl [(.aload_n 0, 1, 0, 0, 0), (.getfield 10, 3, 9, 0, 0), (.getfield 215, 3, 5, 4, 0), (.iload_n 1, 1, 1, 0, 0), (.iload_n 2, 1, 2, 0, 0), (.iload_n 3, 1, 3, 0, 0)] (pc1 := 31) (lo1 := [some (.ref 0), some (.int (nI h)), some (.int y), some (.int z)]) (st1 := [.int z, .int y, .int (nI h), .ref 22]) (μ1 := μ1) (vc := True) rfl (by decide +kernel) rfl trivial ?_
  refine pm_callV2 mi_X0_add (ix := 219) (b := 22) (ci := 0) (kc2 := 2) (ks2 := 12) (As := [.int (nI h), .int y, .int z]) (rest := []) (c_X0_add (nI h) y z μ1 hR1 hG.B (lr_ga hG)) cal_X0_add lk9_219 (by decide +kernel) rfl (by decide +kernel) rfl rfl rfl rfl (Nat.le_of_ble_eq_true rfl) (by decide) (by decide) (fun _ _ h9 => h9.elim) ?_
  rintro _ μ3 ⟨rfl, hf3, hR3⟩
  show pm_V _ _ _ _ 34 _ [] _
  refine pm_bl [(.aload_n 0, 1, 0, 0, 0), (.getfield 10, 3, 9, 0, 0), (.getfield 215, 3, 5, 4, 0), (.getfield 224, 3, 0, 0, 0)] (pc1 := 44) (lo1 := [some (.ref 0), some (.int (nI h)), some (.int y), some (.int z)]) (st1 := [.int (μ3.1 22 0)]) (μ1 := μ3) (vc := True) rfl (by decide +kernel) rfl trivial ?_
  rw [lr_rNa hR3]
  exact pm_iret (ty := .int) rfl rfl (by decide) (by decide) (by decide +kernel) (⟨rfl, hFC.tr hf3, hR3, hH1.fr (fun i hi => hf3.1 i (by omega))⟩)
set_option maxHeartbeats 4000000 in
set_option maxRecDepth 100000 in
theorem c_X9_signer_no1 {g : Nat → Int32} {x : Int32} (y : Int32) (μ : pm_Mm) (hR : lr_Rel μ.1 1 g) (hG : lr_G g) (hb : lr_be x (nI (lr_n g 35)) = false) : pm_CT mi_X9_signer [.ref 0, .int x, .int y] μ (fun _ _ => False) (fun E μ2 => E = "java/lang/IndexOutOfBoundsException" ∧ μ2 = μ) := by
  refine pm_CT_of (lo := [some (.ref 0), some (.int x), some (.int y), none]) (by decide +kernel) rfl rfl (by intro v hv; simp at hv; rcases hv with rfl | rfl | rfl <;> rfl) (Nat.le_of_ble_eq_true rfl) rfl ?_
  have hm1 := lr_mh hG; have hm2 := lr_mw hG; have hm3 := lr_mp hG; have hm4 := lr_mr hG; have hm5 := lr_ma hG; have hm6 := lr_ml hG
  refine pm_bl [(.aload_n 0, 1, 0, 0, 0), (.iload_n 1, 1, 1, 0, 0)] (pc1 := 2) (lo1 := [some (.ref 0), some (.int x), some (.int y), none]) (st1 := [.int x, .ref 0]) (μ1 := μ) (vc := True) rfl (by decide +kernel) rfl trivial ?_
  refine pm_callV2 mi_X9_requirePerson (ix := 151) (b := 0) (ci := 9) (kc2 := 1) (ks2 := 6) (As := [.int x]) (rest := []) (c_X9_requirePerson_no x μ hR hG hb) cal_X9_requirePerson lk9_151 (by decide +kernel) rfl (by decide +kernel) rfl rfl rfl rfl (Nat.le_of_ble_eq_true rfl) (by decide) (by decide) (fun E μ9 h9 => h9) ?_
  rintro _ _ h9; exact h9.elim
set_option maxHeartbeats 4000000 in
set_option maxRecDepth 100000 in
theorem c_X9_signer_no2 {g : Nat → Int32} {h : Nat} {y : Int32} (μ : pm_Mm) (hR : lr_Rel μ.1 1 g) (hG : lr_G g) (hh : h < lr_n g 35) (hl : lr_in y 0 365 = false) : pm_CT mi_X9_signer [.ref 0, .int (nI h), .int y] μ (fun _ _ => False) (fun E μ2 => E = "java/lang/IllegalArgumentException" ∧ μ2 = μ) := by
  refine pm_CT_of (lo := [some (.ref 0), some (.int (nI h)), some (.int y), none]) (by decide +kernel) rfl rfl (by intro v hv; simp at hv; rcases hv with rfl | rfl | rfl <;> rfl) (Nat.le_of_ble_eq_true rfl) rfl ?_
  have hm1 := lr_mh hG; have hm2 := lr_mw hG; have hm3 := lr_mp hG; have hm4 := lr_mr hG; have hm5 := lr_ma hG; have hm6 := lr_ml hG
  refine pm_bl [(.aload_n 0, 1, 0, 0, 0), (.iload_n 1, 1, 1, 0, 0)] (pc1 := 2) (lo1 := [some (.ref 0), some (.int (nI h)), some (.int y), none]) (st1 := [.int (nI h), .ref 0]) (μ1 := μ) (vc := True) rfl (by decide +kernel) rfl trivial ?_
  refine pm_callV2 mi_X9_requirePerson (ix := 151) (b := 0) (ci := 9) (kc2 := 1) (ks2 := 6) (As := [.int (nI h)]) (rest := []) (c_X9_requirePerson (nI h) μ (by first | exact hR | exact hR1) hG (lr_be_1 hh (by omega))) cal_X9_requirePerson lk9_151 (by decide +kernel) rfl (by decide +kernel) rfl rfl rfl rfl (Nat.le_of_ble_eq_true rfl) (by decide) (by decide) (fun _ _ h9 => h9.elim) ?_
  rintro _ _ ⟨rfl, h9⟩; rw [h9]; clear h9
  show pm_V _ _ _ _ 5 _ [] _
  refine pm_bl [(.iload_n 2, 1, 2, 0, 0)] (pc1 := 6) (lo1 := [some (.ref 0), some (.int (nI h)), some (.int y), none]) (st1 := [.int y]) (μ1 := μ) (vc := True) rfl (by decide +kernel) rfl trivial ?_
  refine pm_callS2 mi_X9_requireDay (ix := 181) (kc2 := 2) (ks2 := 12) (As := [.int y]) (rest := []) (c_X9_requireDay_no y μ hl) cal_X9_requireDay lk9_181 (by decide +kernel) rfl (by decide +kernel) rfl rfl (Nat.le_of_ble_eq_true rfl) (by decide) (by decide) (fun E μ9 h9 => h9) ?_
  rintro _ _ h9; exact h9.elim
set_option maxHeartbeats 4000000 in
set_option maxRecDepth 100000 in
theorem c_X9_signer_no3 {g : Nat → Int32} {h : Nat} {y : Int32} (μ : pm_Mm) (hR : lr_Rel μ.1 1 g) (hG : lr_G g) (hh : h < lr_n g 35) (hl : lr_in y 0 365 = true) (hs : lr_sg g h y = -1) : pm_CT mi_X9_signer [.ref 0, .int (nI h), .int y] μ (fun _ _ => False) (fun E μ2 => E = "java/util/NoSuchElementException" ∧ μ2 = μ) := by
  refine pm_CT_of (lo := [some (.ref 0), some (.int (nI h)), some (.int y), none]) (by decide +kernel) rfl rfl (by intro v hv; simp at hv; rcases hv with rfl | rfl | rfl <;> rfl) (Nat.le_of_ble_eq_true rfl) rfl ?_
  have hm1 := lr_mh hG; have hm2 := lr_mw hG; have hm3 := lr_mp hG; have hm4 := lr_mr hG; have hm5 := lr_ma hG; have hm6 := lr_ml hG
  refine pm_bl [(.aload_n 0, 1, 0, 0, 0), (.iload_n 1, 1, 1, 0, 0)] (pc1 := 2) (lo1 := [some (.ref 0), some (.int (nI h)), some (.int y), none]) (st1 := [.int (nI h), .ref 0]) (μ1 := μ) (vc := True) rfl (by decide +kernel) rfl trivial ?_
  refine pm_callV2 mi_X9_requirePerson (ix := 151) (b := 0) (ci := 9) (kc2 := 1) (ks2 := 6) (As := [.int (nI h)]) (rest := []) (c_X9_requirePerson (nI h) μ (by first | exact hR | exact hR1) hG (lr_be_1 hh (by omega))) cal_X9_requirePerson lk9_151 (by decide +kernel) rfl (by decide +kernel) rfl rfl rfl rfl (Nat.le_of_ble_eq_true rfl) (by decide) (by decide) (fun _ _ h9 => h9.elim) ?_
  rintro _ _ ⟨rfl, h9⟩; rw [h9]; clear h9
  show pm_V _ _ _ _ 5 _ [] _
  refine pm_bl [(.iload_n 2, 1, 2, 0, 0)] (pc1 := 6) (lo1 := [some (.ref 0), some (.int (nI h)), some (.int y), none]) (st1 := [.int y]) (μ1 := μ) (vc := True) rfl (by decide +kernel) rfl trivial ?_
  refine pm_callS2 mi_X9_requireDay (ix := 181) (kc2 := 2) (ks2 := 12) (As := [.int y]) (rest := []) (c_X9_requireDay y μ hl) cal_X9_requireDay lk9_181 (by decide +kernel) rfl (by decide +kernel) rfl rfl (Nat.le_of_ble_eq_true rfl) (by decide) (by decide) (fun _ _ h9 => h9.elim) ?_
  rintro _ _ ⟨rfl, h9⟩; rw [h9]; clear h9
  show pm_V _ _ _ _ 9 _ [] _
  refine pm_bl [(.aload_n 0, 1, 0, 0, 0), (.getfield 10, 3, 9, 0, 0), (.iload_n 1, 1, 1, 0, 0), (.iload_n 2, 1, 2, 0, 0)] (pc1 := 15) (lo1 := [some (.ref 0), some (.int (nI h)), some (.int y), none]) (st1 := [.int y, .int (nI h), .ref 1]) (μ1 := μ) (vc := True) rfl (by decide +kernel) rfl trivial ?_
  refine pm_callV2 mi_X5_whoSigns (ix := 225) (b := 1) (ci := 5) (kc2 := 2) (ks2 := 12) (As := [.int (nI h), .int y]) (rest := []) (c_X5_whoSigns (p := h) y μ hR hG hh) cal_X5_whoSigns lk9_225 (by decide +kernel) rfl (by decide +kernel) rfl rfl rfl rfl (Nat.le_of_ble_eq_true rfl) (by decide) (by decide) (fun _ _ h9 => h9.elim) ?_
  rintro _ _ ⟨rfl, h9⟩; rw [h9]; clear h9
  show pm_V _ _ _ _ 18 _ [.int (lr_sg g h y)] _
  refine pm_bl [(.istore_n 3, 1, 3, 0, 0), (.iload_n 3, 1, 3, 0, 0), (.iconst (-1), 1, 0, 0, (-1))] (pc1 := 21) (lo1 := [some (.ref 0), some (.int (nI h)), some (.int y), some (.int (lr_sg g h y))]) (st1 := [.int (-1), .int (lr_sg g h y)]) (μ1 := μ) (vc := True) rfl (by decide +kernel) rfl trivial ?_
  refine pm_icmp_ne (off := 13) 34 (by decide +kernel) (by decide) (fun (h9 : ¬ (lr_sg g h y) = (-1)) => absurd hs h9) (fun (h21 : (lr_sg g h y) = (-1)) => ?_)
  exact pm_throwX (is := 228) (tx := "nobody would sign") pm_exNS rfl (by decide +kernel) rfl (by decide +kernel) (by decide +kernel) (by decide +kernel) (by decide +kernel) (by decide +kernel) (by decide) (by decide) (⟨rfl, rfl⟩)
set_option maxHeartbeats 4000000 in
set_option maxRecDepth 100000 in
theorem c_X9_signer {g : Nat → Int32} {h : Nat} {y : Int32} (μ : pm_Mm) (hR : lr_Rel μ.1 1 g) (hG : lr_G g) (hh : h < lr_n g 35) (hl : lr_in y 0 365 = true) (hs : ¬ lr_sg g h y = -1) : pm_CT mi_X9_signer [.ref 0, .int (nI h), .int y] μ (fun v μ2 => v = some (.int (lr_sg g h y)) ∧ μ2 = μ) pm_NX := by
  refine pm_CT_of (lo := [some (.ref 0), some (.int (nI h)), some (.int y), none]) (by decide +kernel) rfl rfl (by intro v hv; simp at hv; rcases hv with rfl | rfl | rfl <;> rfl) (Nat.le_of_ble_eq_true rfl) rfl ?_
  have hm1 := lr_mh hG; have hm2 := lr_mw hG; have hm3 := lr_mp hG; have hm4 := lr_mr hG; have hm5 := lr_ma hG; have hm6 := lr_ml hG
  refine pm_bl [(.aload_n 0, 1, 0, 0, 0), (.iload_n 1, 1, 1, 0, 0)] (pc1 := 2) (lo1 := [some (.ref 0), some (.int (nI h)), some (.int y), none]) (st1 := [.int (nI h), .ref 0]) (μ1 := μ) (vc := True) rfl (by decide +kernel) rfl trivial ?_
  refine pm_callV2 mi_X9_requirePerson (ix := 151) (b := 0) (ci := 9) (kc2 := 1) (ks2 := 6) (As := [.int (nI h)]) (rest := []) (c_X9_requirePerson (nI h) μ (by first | exact hR | exact hR1) hG (lr_be_1 hh (by omega))) cal_X9_requirePerson lk9_151 (by decide +kernel) rfl (by decide +kernel) rfl rfl rfl rfl (Nat.le_of_ble_eq_true rfl) (by decide) (by decide) (fun _ _ h9 => h9.elim) ?_
  rintro _ _ ⟨rfl, h9⟩; rw [h9]; clear h9
  show pm_V _ _ _ _ 5 _ [] _
  refine pm_bl [(.iload_n 2, 1, 2, 0, 0)] (pc1 := 6) (lo1 := [some (.ref 0), some (.int (nI h)), some (.int y), none]) (st1 := [.int y]) (μ1 := μ) (vc := True) rfl (by decide +kernel) rfl trivial ?_
  refine pm_callS2 mi_X9_requireDay (ix := 181) (kc2 := 2) (ks2 := 12) (As := [.int y]) (rest := []) (c_X9_requireDay y μ hl) cal_X9_requireDay lk9_181 (by decide +kernel) rfl (by decide +kernel) rfl rfl (Nat.le_of_ble_eq_true rfl) (by decide) (by decide) (fun _ _ h9 => h9.elim) ?_
  rintro _ _ ⟨rfl, h9⟩; rw [h9]; clear h9
  show pm_V _ _ _ _ 9 _ [] _
  refine pm_bl [(.aload_n 0, 1, 0, 0, 0), (.getfield 10, 3, 9, 0, 0), (.iload_n 1, 1, 1, 0, 0), (.iload_n 2, 1, 2, 0, 0)] (pc1 := 15) (lo1 := [some (.ref 0), some (.int (nI h)), some (.int y), none]) (st1 := [.int y, .int (nI h), .ref 1]) (μ1 := μ) (vc := True) rfl (by decide +kernel) rfl trivial ?_
  refine pm_callV2 mi_X5_whoSigns (ix := 225) (b := 1) (ci := 5) (kc2 := 2) (ks2 := 12) (As := [.int (nI h), .int y]) (rest := []) (c_X5_whoSigns (p := h) y μ hR hG hh) cal_X5_whoSigns lk9_225 (by decide +kernel) rfl (by decide +kernel) rfl rfl rfl rfl (Nat.le_of_ble_eq_true rfl) (by decide) (by decide) (fun _ _ h9 => h9.elim) ?_
  rintro _ _ ⟨rfl, h9⟩; rw [h9]; clear h9
  show pm_V _ _ _ _ 18 _ [.int (lr_sg g h y)] _
  refine pm_bl [(.istore_n 3, 1, 3, 0, 0), (.iload_n 3, 1, 3, 0, 0), (.iconst (-1), 1, 0, 0, (-1))] (pc1 := 21) (lo1 := [some (.ref 0), some (.int (nI h)), some (.int y), some (.int (lr_sg g h y))]) (st1 := [.int (-1), .int (lr_sg g h y)]) (μ1 := μ) (vc := True) rfl (by decide +kernel) rfl trivial ?_
  refine pm_icmp_ne (off := 13) 34 (by decide +kernel) (by decide) (fun (h21 : ¬ (lr_sg g h y) = (-1)) => ?_) (fun (h9 : (lr_sg g h y) = (-1)) => absurd h9 hs)
  refine pm_bl [(.iload_n 3, 1, 3, 0, 0)] (pc1 := 35) (lo1 := [some (.ref 0), some (.int (nI h)), some (.int y), some (.int (lr_sg g h y))]) (st1 := [.int (lr_sg g h y)]) (μ1 := μ) (vc := True) rfl (by decide +kernel) rfl trivial ?_
  exact pm_iret (ty := .int) rfl rfl (by decide) (by decide) (by decide +kernel) (⟨rfl, rfl⟩)
set_option maxHeartbeats 4000000 in
set_option maxRecDepth 100000 in
theorem c_X9_residents_no1 {g : Nat → Int32} {x : Int32} (y z : Int32) (μ : pm_Mm) (hR : lr_Rel μ.1 1 g) (hG : lr_G g) (hb : lr_be x (nI (lr_n g 2)) = false) : pm_CT mi_X9_residents [.ref 0, .int x, .int y, .int z] μ (fun _ _ => False) (fun E μ2 => E = "java/lang/IndexOutOfBoundsException" ∧ μ2 = μ) := by
  refine pm_CT_of (lo := [some (.ref 0), some (.int x), some (.int y), some (.int z)]) (by decide +kernel) rfl rfl (by intro v hv; simp at hv; rcases hv with rfl | rfl | rfl | rfl <;> rfl) (Nat.le_of_ble_eq_true rfl) rfl ?_
  have hm1 := lr_mh hG; have hm2 := lr_mw hG; have hm3 := lr_mp hG; have hm4 := lr_mr hG; have hm5 := lr_ma hG; have hm6 := lr_ml hG
  refine pm_bl [(.aload_n 0, 1, 0, 0, 0), (.iload_n 1, 1, 1, 0, 0)] (pc1 := 2) (lo1 := [some (.ref 0), some (.int x), some (.int y), some (.int z)]) (st1 := [.int x, .ref 0]) (μ1 := μ) (vc := True) rfl (by decide +kernel) rfl trivial ?_
  refine pm_callV2 mi_X9_requireHouse (ix := 86) (b := 0) (ci := 9) (kc2 := 1) (ks2 := 6) (As := [.int x]) (rest := []) (c_X9_requireHouse_no x μ hR hG hb) cal_X9_requireHouse lk9_86 (by decide +kernel) rfl (by decide +kernel) rfl rfl rfl rfl (Nat.le_of_ble_eq_true rfl) (by decide) (by decide) (fun E μ9 h9 => h9) ?_
  rintro _ _ h9; exact h9.elim
set_option maxHeartbeats 4000000 in
set_option maxRecDepth 100000 in
theorem c_X9_residents_no1b {g : Nat → Int32} {h : Nat} {x : Int32} (z : Int32) (μ : pm_Mm) (hR : lr_Rel μ.1 1 g) (hG : lr_G g) (hh : h < lr_n g 2) (hb : lr_be x (nI (lr_n g 2)) = false) : pm_CT mi_X9_residents [.ref 0, .int (nI h), .int x, .int z] μ (fun _ _ => False) (fun E μ2 => E = "java/lang/IndexOutOfBoundsException" ∧ μ2 = μ) := by
  refine pm_CT_of (lo := [some (.ref 0), some (.int (nI h)), some (.int x), some (.int z)]) (by decide +kernel) rfl rfl (by intro v hv; simp at hv; rcases hv with rfl | rfl | rfl | rfl <;> rfl) (Nat.le_of_ble_eq_true rfl) rfl ?_
  have hm1 := lr_mh hG; have hm2 := lr_mw hG; have hm3 := lr_mp hG; have hm4 := lr_mr hG; have hm5 := lr_ma hG; have hm6 := lr_ml hG
  refine pm_bl [(.aload_n 0, 1, 0, 0, 0), (.iload_n 1, 1, 1, 0, 0)] (pc1 := 2) (lo1 := [some (.ref 0), some (.int (nI h)), some (.int x), some (.int z)]) (st1 := [.int (nI h), .ref 0]) (μ1 := μ) (vc := True) rfl (by decide +kernel) rfl trivial ?_
  refine pm_callV2 mi_X9_requireHouse (ix := 86) (b := 0) (ci := 9) (kc2 := 1) (ks2 := 6) (As := [.int (nI h)]) (rest := []) (c_X9_requireHouse (nI h) μ (by first | exact hR | exact hR1) hG (lr_be_1 hh (by omega))) cal_X9_requireHouse lk9_86 (by decide +kernel) rfl (by decide +kernel) rfl rfl rfl rfl (Nat.le_of_ble_eq_true rfl) (by decide) (by decide) (fun _ _ h9 => h9.elim) ?_
  rintro _ _ ⟨rfl, h9⟩; rw [h9]; clear h9
  show pm_V _ _ _ _ 5 _ [] _
  refine pm_bl [(.aload_n 0, 1, 0, 0, 0), (.iload_n 2, 1, 2, 0, 0)] (pc1 := 7) (lo1 := [some (.ref 0), some (.int (nI h)), some (.int x), some (.int z)]) (st1 := [.int x, .ref 0]) (μ1 := μ) (vc := True) rfl (by decide +kernel) rfl trivial ?_
  refine pm_callV2 mi_X9_requireHouse (ix := 86) (b := 0) (ci := 9) (kc2 := 2) (ks2 := 12) (As := [.int x]) (rest := []) (c_X9_requireHouse_no x μ hR hG hb) cal_X9_requireHouse lk9_86 (by decide +kernel) rfl (by decide +kernel) rfl rfl rfl rfl (Nat.le_of_ble_eq_true rfl) (by decide) (by decide) (fun E μ9 h9 => h9) ?_
  rintro _ _ h9; exact h9.elim
set_option maxHeartbeats 4000000 in
set_option maxRecDepth 100000 in
theorem c_X9_residents_no2 {g : Nat → Int32} {h q : Nat} {z : Int32} (μ : pm_Mm) (hR : lr_Rel μ.1 1 g) (hG : lr_G g) (hh : h < lr_n g 2) (hq2 : q < lr_n g 2) (hl : lr_in z 0 365 = false) : pm_CT mi_X9_residents [.ref 0, .int (nI h), .int (nI q), .int z] μ (fun _ _ => False) (fun E μ2 => E = "java/lang/IllegalArgumentException" ∧ μ2 = μ) := by
  refine pm_CT_of (lo := [some (.ref 0), some (.int (nI h)), some (.int (nI q)), some (.int z)]) (by decide +kernel) rfl rfl (by intro v hv; simp at hv; rcases hv with rfl | rfl | rfl | rfl <;> rfl) (Nat.le_of_ble_eq_true rfl) rfl ?_
  have hm1 := lr_mh hG; have hm2 := lr_mw hG; have hm3 := lr_mp hG; have hm4 := lr_mr hG; have hm5 := lr_ma hG; have hm6 := lr_ml hG
  refine pm_bl [(.aload_n 0, 1, 0, 0, 0), (.iload_n 1, 1, 1, 0, 0)] (pc1 := 2) (lo1 := [some (.ref 0), some (.int (nI h)), some (.int (nI q)), some (.int z)]) (st1 := [.int (nI h), .ref 0]) (μ1 := μ) (vc := True) rfl (by decide +kernel) rfl trivial ?_
  refine pm_callV2 mi_X9_requireHouse (ix := 86) (b := 0) (ci := 9) (kc2 := 1) (ks2 := 6) (As := [.int (nI h)]) (rest := []) (c_X9_requireHouse (nI h) μ (by first | exact hR | exact hR1) hG (lr_be_1 hh (by omega))) cal_X9_requireHouse lk9_86 (by decide +kernel) rfl (by decide +kernel) rfl rfl rfl rfl (Nat.le_of_ble_eq_true rfl) (by decide) (by decide) (fun _ _ h9 => h9.elim) ?_
  rintro _ _ ⟨rfl, h9⟩; rw [h9]; clear h9
  show pm_V _ _ _ _ 5 _ [] _
  refine pm_bl [(.aload_n 0, 1, 0, 0, 0), (.iload_n 2, 1, 2, 0, 0)] (pc1 := 7) (lo1 := [some (.ref 0), some (.int (nI h)), some (.int (nI q)), some (.int z)]) (st1 := [.int (nI q), .ref 0]) (μ1 := μ) (vc := True) rfl (by decide +kernel) rfl trivial ?_
  refine pm_callV2 mi_X9_requireHouse (ix := 86) (b := 0) (ci := 9) (kc2 := 2) (ks2 := 12) (As := [.int (nI q)]) (rest := []) (c_X9_requireHouse (nI q) μ (by first | exact hR | exact hR1) hG (lr_be_1 hq2 (by omega))) cal_X9_requireHouse lk9_86 (by decide +kernel) rfl (by decide +kernel) rfl rfl rfl rfl (Nat.le_of_ble_eq_true rfl) (by decide) (by decide) (fun _ _ h9 => h9.elim) ?_
  rintro _ _ ⟨rfl, h9⟩; rw [h9]; clear h9
  show pm_V _ _ _ _ 10 _ [] _
  refine pm_bl [(.iload_n 3, 1, 3, 0, 0)] (pc1 := 11) (lo1 := [some (.ref 0), some (.int (nI h)), some (.int (nI q)), some (.int z)]) (st1 := [.int z]) (μ1 := μ) (vc := True) rfl (by decide +kernel) rfl trivial ?_
  refine pm_callS2 mi_X9_requireDay (ix := 181) (kc2 := 3) (ks2 := 18) (As := [.int z]) (rest := []) (c_X9_requireDay_no z μ hl) cal_X9_requireDay lk9_181 (by decide +kernel) rfl (by decide +kernel) rfl rfl (Nat.le_of_ble_eq_true rfl) (by decide) (by decide) (fun E μ9 h9 => h9) ?_
  rintro _ _ h9; exact h9.elim
set_option maxHeartbeats 4000000 in
set_option maxRecDepth 100000 in
theorem c_X9_residents {g : Nat → Int32} {h q : Nat} {z : Int32} (μ : pm_Mm) (hR : lr_Rel μ.1 1 g) (hG : lr_G g) (hh : h < lr_n g 2) (hq2 : q < lr_n g 2) (hl : lr_in z 0 365 = true) : pm_CT mi_X9_residents [.ref 0, .int (nI h), .int (nI q), .int z] μ (fun v μ2 => v = some (.int (lr_res g (nI h) (nI q) z)) ∧ μ2 = μ) pm_NX := by
  refine pm_CT_of (lo := [some (.ref 0), some (.int (nI h)), some (.int (nI q)), some (.int z)]) (by decide +kernel) rfl rfl (by intro v hv; simp at hv; rcases hv with rfl | rfl | rfl | rfl <;> rfl) (Nat.le_of_ble_eq_true rfl) rfl ?_
  have hm1 := lr_mh hG; have hm2 := lr_mw hG; have hm3 := lr_mp hG; have hm4 := lr_mr hG; have hm5 := lr_ma hG; have hm6 := lr_ml hG
  refine pm_bl [(.aload_n 0, 1, 0, 0, 0), (.iload_n 1, 1, 1, 0, 0)] (pc1 := 2) (lo1 := [some (.ref 0), some (.int (nI h)), some (.int (nI q)), some (.int z)]) (st1 := [.int (nI h), .ref 0]) (μ1 := μ) (vc := True) rfl (by decide +kernel) rfl trivial ?_
  refine pm_callV2 mi_X9_requireHouse (ix := 86) (b := 0) (ci := 9) (kc2 := 1) (ks2 := 6) (As := [.int (nI h)]) (rest := []) (c_X9_requireHouse (nI h) μ (by first | exact hR | exact hR1) hG (lr_be_1 hh (by omega))) cal_X9_requireHouse lk9_86 (by decide +kernel) rfl (by decide +kernel) rfl rfl rfl rfl (Nat.le_of_ble_eq_true rfl) (by decide) (by decide) (fun _ _ h9 => h9.elim) ?_
  rintro _ _ ⟨rfl, h9⟩; rw [h9]; clear h9
  show pm_V _ _ _ _ 5 _ [] _
  refine pm_bl [(.aload_n 0, 1, 0, 0, 0), (.iload_n 2, 1, 2, 0, 0)] (pc1 := 7) (lo1 := [some (.ref 0), some (.int (nI h)), some (.int (nI q)), some (.int z)]) (st1 := [.int (nI q), .ref 0]) (μ1 := μ) (vc := True) rfl (by decide +kernel) rfl trivial ?_
  refine pm_callV2 mi_X9_requireHouse (ix := 86) (b := 0) (ci := 9) (kc2 := 2) (ks2 := 12) (As := [.int (nI q)]) (rest := []) (c_X9_requireHouse (nI q) μ (by first | exact hR | exact hR1) hG (lr_be_1 hq2 (by omega))) cal_X9_requireHouse lk9_86 (by decide +kernel) rfl (by decide +kernel) rfl rfl rfl rfl (Nat.le_of_ble_eq_true rfl) (by decide) (by decide) (fun _ _ h9 => h9.elim) ?_
  rintro _ _ ⟨rfl, h9⟩; rw [h9]; clear h9
  show pm_V _ _ _ _ 10 _ [] _
  refine pm_bl [(.iload_n 3, 1, 3, 0, 0)] (pc1 := 11) (lo1 := [some (.ref 0), some (.int (nI h)), some (.int (nI q)), some (.int z)]) (st1 := [.int z]) (μ1 := μ) (vc := True) rfl (by decide +kernel) rfl trivial ?_
  refine pm_callS2 mi_X9_requireDay (ix := 181) (kc2 := 3) (ks2 := 18) (As := [.int z]) (rest := []) (c_X9_requireDay z μ hl) cal_X9_requireDay lk9_181 (by decide +kernel) rfl (by decide +kernel) rfl rfl (Nat.le_of_ble_eq_true rfl) (by decide) (by decide) (fun _ _ h9 => h9.elim) ?_
  rintro _ _ ⟨rfl, h9⟩; rw [h9]; clear h9
  show pm_V _ _ _ _ 14 _ [] _
  refine pm_bl [(.aload_n 0, 1, 0, 0, 0), (.getfield 10, 3, 9, 0, 0), (.iload_n 1, 1, 1, 0, 0), (.iload_n 2, 1, 2, 0, 0), (.iload_n 3, 1, 3, 0, 0)] (pc1 := 21) (lo1 := [some (.ref 0), some (.int (nI h)), some (.int (nI q)), some (.int z)]) (st1 := [.int z, .int (nI q), .int (nI h), .ref 1]) (μ1 := μ) (vc := True) rfl (by decide +kernel) rfl trivial ?_
  refine pm_callV2 mi_X5_countResidents (ix := 230) (b := 1) (ci := 5) (kc2 := 3) (ks2 := 18) (As := [.int (nI h), .int (nI q), .int z]) (rest := []) (c_X5_countResidents (nI h) (nI q) z μ hR hG) cal_X5_countResidents lk9_230 (by decide +kernel) rfl (by decide +kernel) rfl rfl rfl rfl (Nat.le_of_ble_eq_true rfl) (by decide) (by decide) (fun _ _ h9 => h9.elim) ?_
  rintro _ _ ⟨rfl, h9⟩; rw [h9]; clear h9
  show pm_V _ _ _ _ 24 _ [.int (lr_res g (nI h) (nI q) z)] _
  exact pm_iret (ty := .int) rfl rfl (by decide) (by decide) (by decide +kernel) (⟨rfl, rfl⟩)
set_option maxHeartbeats 4000000 in
set_option maxRecDepth 100000 in
theorem c_X9_addLetter_no1 {g : Nat → Int32} {x : Int32} (y z : Int32) (μ : pm_Mm) (hR : lr_Rel μ.1 1 g) (hG : lr_G g) (hb : lr_be x (nI (lr_n g 35)) = false) : pm_CT mi_X9_addLetter [.ref 0, .int x, .int y, .int z] μ (fun _ _ => False) (fun E μ2 => E = "java/lang/IndexOutOfBoundsException" ∧ μ2 = μ) := by
  refine pm_CT_of (lo := [some (.ref 0), some (.int x), some (.int y), some (.int z)]) (by decide +kernel) rfl rfl (by intro v hv; simp at hv; rcases hv with rfl | rfl | rfl | rfl <;> rfl) (Nat.le_of_ble_eq_true rfl) rfl ?_
  have hm1 := lr_mh hG; have hm2 := lr_mw hG; have hm3 := lr_mp hG; have hm4 := lr_mr hG; have hm5 := lr_ma hG; have hm6 := lr_ml hG
  refine pm_bl [(.aload_n 0, 1, 0, 0, 0), (.iload_n 1, 1, 1, 0, 0)] (pc1 := 2) (lo1 := [some (.ref 0), some (.int x), some (.int y), some (.int z)]) (st1 := [.int x, .ref 0]) (μ1 := μ) (vc := True) rfl (by decide +kernel) rfl trivial ?_
  refine pm_callV2 mi_X9_requirePerson (ix := 151) (b := 0) (ci := 9) (kc2 := 1) (ks2 := 6) (As := [.int x]) (rest := []) (c_X9_requirePerson_no x μ hR hG hb) cal_X9_requirePerson lk9_151 (by decide +kernel) rfl (by decide +kernel) rfl rfl rfl rfl (Nat.le_of_ble_eq_true rfl) (by decide) (by decide) (fun E μ9 h9 => h9) ?_
  rintro _ _ h9; exact h9.elim
set_option maxHeartbeats 4000000 in
set_option maxRecDepth 100000 in
theorem c_X9_addLetter_no2 {g : Nat → Int32} {h : Nat} {y : Int32} (z : Int32) (μ : pm_Mm) (hR : lr_Rel μ.1 1 g) (hG : lr_G g) (hh : h < lr_n g 35) (hl : lr_in y 1 9 = false) : pm_CT mi_X9_addLetter [.ref 0, .int (nI h), .int y, .int z] μ (fun _ _ => False) (fun E μ2 => E = "java/lang/IllegalArgumentException" ∧ μ2 = μ) := by
  refine pm_CT_of (lo := [some (.ref 0), some (.int (nI h)), some (.int y), some (.int z)]) (by decide +kernel) rfl rfl (by intro v hv; simp at hv; rcases hv with rfl | rfl | rfl | rfl <;> rfl) (Nat.le_of_ble_eq_true rfl) rfl ?_
  have hm1 := lr_mh hG; have hm2 := lr_mw hG; have hm3 := lr_mp hG; have hm4 := lr_mr hG; have hm5 := lr_ma hG; have hm6 := lr_ml hG
  refine pm_bl [(.aload_n 0, 1, 0, 0, 0), (.iload_n 1, 1, 1, 0, 0)] (pc1 := 2) (lo1 := [some (.ref 0), some (.int (nI h)), some (.int y), some (.int z)]) (st1 := [.int (nI h), .ref 0]) (μ1 := μ) (vc := True) rfl (by decide +kernel) rfl trivial ?_
  refine pm_callV2 mi_X9_requirePerson (ix := 151) (b := 0) (ci := 9) (kc2 := 1) (ks2 := 6) (As := [.int (nI h)]) (rest := []) (c_X9_requirePerson (nI h) μ (by first | exact hR | exact hR1) hG (lr_be_1 hh (by omega))) cal_X9_requirePerson lk9_151 (by decide +kernel) rfl (by decide +kernel) rfl rfl rfl rfl (Nat.le_of_ble_eq_true rfl) (by decide) (by decide) (fun _ _ h9 => h9.elim) ?_
  rintro _ _ ⟨rfl, h9⟩; rw [h9]; clear h9
  show pm_V _ _ _ _ 5 _ [] _
  refine pm_bl [(.iload_n 2, 1, 2, 0, 0), (.iconst 1, 1, 0, 0, 1), (.bipush 9, 2, 0, 0, 9)] (pc1 := 9) (lo1 := [some (.ref 0), some (.int (nI h)), some (.int y), some (.int z)]) (st1 := [.int 9, .int 1, .int y]) (μ1 := μ) (vc := True) rfl (by decide +kernel) rfl trivial ?_
  refine pm_callS2 mi_X9_isBetween (ix := 102) (kc2 := 1) (ks2 := 6) (As := [.int y, .int 1, .int 9]) (rest := []) (c_X9_isBetween y 1 9 μ) cal_X9_isBetween lk9_102 (by decide +kernel) rfl (by decide +kernel) rfl rfl (Nat.le_of_ble_eq_true rfl) (by decide) (by decide) (fun _ _ h9 => h9.elim) ?_
  rintro _ _ ⟨rfl, h9⟩; rw [h9]; clear h9
  show pm_V _ _ _ _ 12 _ [.int (lr_b (lr_in y 1 9))] _
  refine pm_ifb_ne (off := 13) 25 (by decide +kernel) (by decide) (fun (h9 : (lr_in y 1 9) = true) => absurd (hl.symm.trans h9) (by decide)) (fun (h12 : (lr_in y 1 9) = false) => ?_)
  exact pm_throw (is := 233) (tx := "the weight is out of range") pm_exIA rfl (by decide +kernel) rfl (by decide +kernel) (by decide +kernel) (by decide +kernel) (by decide +kernel) (by decide +kernel) (by decide) (by decide) (⟨rfl, rfl⟩)
set_option maxHeartbeats 4000000 in
set_option maxRecDepth 100000 in
theorem c_X9_addLetter_no3 {g : Nat → Int32} {h : Nat} {y : Int32} (z : Int32) (μ : pm_Mm) (hR : lr_Rel μ.1 1 g) (hG : lr_G g) (hh : h < lr_n g 35) (hl : lr_in y 1 9 = true) (hn : lr_n g 289 = 30) : pm_CT mi_X9_addLetter [.ref 0, .int (nI h), .int y, .int z] μ (fun _ _ => False) (fun E μ2 => E = "java/lang/UnsupportedOperationException" ∧ μ2 = pm_set μ 0 6 1) := by
  refine pm_CT_of (lo := [some (.ref 0), some (.int (nI h)), some (.int y), some (.int z)]) (by decide +kernel) rfl rfl (by intro v hv; simp at hv; rcases hv with rfl | rfl | rfl | rfl <;> rfl) (Nat.le_of_ble_eq_true rfl) rfl ?_
  have hm1 := lr_mh hG; have hm2 := lr_mw hG; have hm3 := lr_mp hG; have hm4 := lr_mr hG; have hm5 := lr_ma hG; have hm6 := lr_ml hG
  refine pm_bl [(.aload_n 0, 1, 0, 0, 0), (.iload_n 1, 1, 1, 0, 0)] (pc1 := 2) (lo1 := [some (.ref 0), some (.int (nI h)), some (.int y), some (.int z)]) (st1 := [.int (nI h), .ref 0]) (μ1 := μ) (vc := True) rfl (by decide +kernel) rfl trivial ?_
  refine pm_callV2 mi_X9_requirePerson (ix := 151) (b := 0) (ci := 9) (kc2 := 1) (ks2 := 6) (As := [.int (nI h)]) (rest := []) (c_X9_requirePerson (nI h) μ (by first | exact hR | exact hR1) hG (lr_be_1 hh (by omega))) cal_X9_requirePerson lk9_151 (by decide +kernel) rfl (by decide +kernel) rfl rfl rfl rfl (Nat.le_of_ble_eq_true rfl) (by decide) (by decide) (fun _ _ h9 => h9.elim) ?_
  rintro _ _ ⟨rfl, h9⟩; rw [h9]; clear h9
  show pm_V _ _ _ _ 5 _ [] _
  refine pm_bl [(.iload_n 2, 1, 2, 0, 0), (.iconst 1, 1, 0, 0, 1), (.bipush 9, 2, 0, 0, 9)] (pc1 := 9) (lo1 := [some (.ref 0), some (.int (nI h)), some (.int y), some (.int z)]) (st1 := [.int 9, .int 1, .int y]) (μ1 := μ) (vc := True) rfl (by decide +kernel) rfl trivial ?_
  refine pm_callS2 mi_X9_isBetween (ix := 102) (kc2 := 1) (ks2 := 6) (As := [.int y, .int 1, .int 9]) (rest := []) (c_X9_isBetween y 1 9 μ) cal_X9_isBetween lk9_102 (by decide +kernel) rfl (by decide +kernel) rfl rfl (Nat.le_of_ble_eq_true rfl) (by decide) (by decide) (fun _ _ h9 => h9.elim) ?_
  rintro _ _ ⟨rfl, h9⟩; rw [h9]; clear h9
  show pm_V _ _ _ _ 12 _ [.int (lr_b (lr_in y 1 9))] _
  refine pm_ifb_ne (off := 13) 25 (by decide +kernel) (by decide) (fun (h12 : (lr_in y 1 9) = true) => ?_) (fun (h9 : (lr_in y 1 9) = false) => absurd (hl.symm.trans h9) (by decide))
  refine pm_bl [(.aload_n 0, 1, 0, 0, 0), (.getfield 10, 3, 9, 0, 0), (.getfield 235, 3, 5, 5, 0), (.getfield 239, 3, 4, 0, 0)] (pc1 := 35) (lo1 := [some (.ref 0), some (.int (nI h)), some (.int y), some (.int z)]) (st1 := [.int (μ.1 26 0)]) (μ1 := μ) (vc := True) rfl (by decide +kernel) rfl trivial ?_
  rw [lr_rNl hR, lr_gl hG]
  refine pm_bl [(.bipush 30, 2, 0, 0, 30)] (pc1 := 37) (lo1 := [some (.ref 0), some (.int (nI h)), some (.int y), some (.int z)]) (st1 := [.int 30, .int (nI (lr_n g 289))]) (μ1 := μ) (vc := True) rfl (by decide +kernel) rfl trivial ?_
  refine pm_icmp_lt (off := 8) 45 (by decide +kernel) (by decide) (fun (h9 : (nI (lr_n g 289)) < 30) => absurd h9 (by rw [hn]; decide)) (fun (h37 : ¬ ((nI (lr_n g 289)) < 30)) => ?_)
  refine pm_bl [(.aload_n 0, 1, 0, 0, 0), (.iconst 1, 1, 0, 0, 1)] (pc1 := 42) (lo1 := [some (.ref 0), some (.int (nI h)), some (.int y), some (.int z)]) (st1 := [.int 1, .ref 0]) (μ1 := μ) (vc := True) rfl (by decide +kernel) rfl trivial ?_
  refine pm_callV2 mi_X9_refuse (ix := 165) (b := 0) (ci := 9) (kc2 := 2) (ks2 := 12) (As := [.int 1]) (rest := []) (c_X9_refuse 1 μ) cal_X9_refuse lk9_165 (by decide +kernel) rfl (by decide +kernel) rfl rfl rfl rfl (Nat.le_of_ble_eq_true rfl) (by decide) (by decide) (fun E μ9 h9 => h9) ?_
  rintro _ _ h9; exact h9.elim
set_option maxHeartbeats 4000000 in
set_option maxRecDepth 100000 in
theorem c_X9_addLetter_y0 {g : Nat → Int32} {c n : Nat} {F : Nat → Nat → Int32} {h : Nat} {y : Int32} (μ : pm_Mm) (hR : lr_Rel μ.1 1 g) (hG : lr_G g) (hh : h < lr_n g 35) (hl : lr_in y 1 9 = true) (hn : lr_n g 289 < 30) (hH : lr_Hs μ.1 c n F) : pm_CT mi_X9_addLetter [.ref 0, .int (nI h), .int y, .int 0] μ (fun v μ2 => v = some (.int (nI (lr_n g 289))) ∧ lr_fc μ μ2 ∧ lr_Rel μ2.1 1 (lr_glet g (nI h) y 0 (g 0)) ∧ lr_Hs μ2.1 (min (c + 1) 8) ((n + 1) % 8) (lr_psh c F g)) pm_NX := by
  refine pm_CT_of (lo := [some (.ref 0), some (.int (nI h)), some (.int y), some (.int 0)]) (by decide +kernel) rfl rfl (by intro v hv; simp at hv; rcases hv with rfl | rfl | rfl | rfl <;> rfl) (Nat.le_of_ble_eq_true rfl) rfl ?_
  have hm1 := lr_mh hG; have hm2 := lr_mw hG; have hm3 := lr_mp hG; have hm4 := lr_mr hG; have hm5 := lr_ma hG; have hm6 := lr_ml hG
  refine pm_bl [(.aload_n 0, 1, 0, 0, 0), (.iload_n 1, 1, 1, 0, 0)] (pc1 := 2) (lo1 := [some (.ref 0), some (.int (nI h)), some (.int y), some (.int 0)]) (st1 := [.int (nI h), .ref 0]) (μ1 := μ) (vc := True) rfl (by decide +kernel) rfl trivial ?_
  refine pm_callV2 mi_X9_requirePerson (ix := 151) (b := 0) (ci := 9) (kc2 := 1) (ks2 := 6) (As := [.int (nI h)]) (rest := []) (c_X9_requirePerson (nI h) μ (by first | exact hR | exact hR1) hG (lr_be_1 hh (by omega))) cal_X9_requirePerson lk9_151 (by decide +kernel) rfl (by decide +kernel) rfl rfl rfl rfl (Nat.le_of_ble_eq_true rfl) (by decide) (by decide) (fun _ _ h9 => h9.elim) ?_
  rintro _ _ ⟨rfl, h9⟩; rw [h9]; clear h9
  show pm_V _ _ _ _ 5 _ [] _
  refine pm_bl [(.iload_n 2, 1, 2, 0, 0), (.iconst 1, 1, 0, 0, 1), (.bipush 9, 2, 0, 0, 9)] (pc1 := 9) (lo1 := [some (.ref 0), some (.int (nI h)), some (.int y), some (.int 0)]) (st1 := [.int 9, .int 1, .int y]) (μ1 := μ) (vc := True) rfl (by decide +kernel) rfl trivial ?_
  refine pm_callS2 mi_X9_isBetween (ix := 102) (kc2 := 1) (ks2 := 6) (As := [.int y, .int 1, .int 9]) (rest := []) (c_X9_isBetween y 1 9 μ) cal_X9_isBetween lk9_102 (by decide +kernel) rfl (by decide +kernel) rfl rfl (Nat.le_of_ble_eq_true rfl) (by decide) (by decide) (fun _ _ h9 => h9.elim) ?_
  rintro _ _ ⟨rfl, h9⟩; rw [h9]; clear h9
  show pm_V _ _ _ _ 12 _ [.int (lr_b (lr_in y 1 9))] _
  refine pm_ifb_ne (off := 13) 25 (by decide +kernel) (by decide) (fun (h12 : (lr_in y 1 9) = true) => ?_) (fun (h9 : (lr_in y 1 9) = false) => absurd (hl.symm.trans h9) (by decide))
  refine pm_bl [(.aload_n 0, 1, 0, 0, 0), (.getfield 10, 3, 9, 0, 0), (.getfield 235, 3, 5, 5, 0), (.getfield 239, 3, 4, 0, 0)] (pc1 := 35) (lo1 := [some (.ref 0), some (.int (nI h)), some (.int y), some (.int 0)]) (st1 := [.int (μ.1 26 0)]) (μ1 := μ) (vc := True) rfl (by decide +kernel) rfl trivial ?_
  rw [lr_rNl hR, lr_gl hG]
  refine pm_bl [(.bipush 30, 2, 0, 0, 30)] (pc1 := 37) (lo1 := [some (.ref 0), some (.int (nI h)), some (.int y), some (.int 0)]) (st1 := [.int 30, .int (nI (lr_n g 289))]) (μ1 := μ) (vc := True) rfl (by decide +kernel) rfl trivial ?_
  refine pm_icmp_lt (off := 8) 45 (by decide +kernel) (by decide) (fun (h37 : (nI (lr_n g 289)) < 30) => ?_) (fun (h9 : ¬ ((nI (lr_n g 289)) < 30)) => absurd (nI_lt (b := 30) hn (by decide)) h9)
  refine pm_bl [(.aload_n 0, 1, 0, 0, 0), (.getfield 19, 3, 9, 1, 0), (.aload_n 0, 1, 0, 0, 0), (.getfield 10, 3, 9, 0, 0)] (pc1 := 53) (lo1 := [some (.ref 0), some (.int (nI h)), some (.int y), some (.int 0)]) (st1 := [.ref 1, .ref 45]) (μ1 := μ) (vc := True) rfl (by decide +kernel) rfl trivial ?_
  refine pm_callV2 mi_X2_keep (ix := 78) (b := 45) (ci := 2) (kc2 := 1) (ks2 := 6) (As := [.ref 1]) (rest := []) (c_X2_keep (c := c) (n := n) μ hR hG.B hH.2.1 hH.2.2.2.1 hH.2.2.1 hH.1) cal_X2_keep lk9_78 (by decide +kernel) rfl (by decide +kernel) rfl rfl rfl rfl (Nat.le_of_ble_eq_true rfl) (by decide) (by decide) (fun _ _ h9 => h9.elim) ?_
  rintro _ μ1 ⟨rfl, h2k, hfk, hRk, hck, hnk⟩
  obtain ⟨hFC, hR1, hH1⟩ := lr_keep_ok hR hH h2k hfk hRk hck hnk
  show pm_V _ _ _ _ 56 _ [] _
  refine pm_bl [(.aload_n 0, 1, 0, 0, 0), (.getfield 10, 3, 9, 0, 0), (.getfield 235, 3, 5, 5, 0), (.iload_n 1, 1, 1, 0, 0), (.iload_n 2, 1, 2, 0, 0), (.iload_n 3, 1, 3, 0, 0)] (pc1 := 66) (lo1 := [some (.ref 0), some (.int (nI h)), some (.int y), some (.int 0)]) (st1 := [.int 0, .int y, .int (nI h), .ref 26]) (μ1 := μ1) (vc := True) rfl (by decide +kernel) rfl trivial ?_
  refine pm_if_eq (off := 7) 73 (by decide +kernel) (by decide) (fun _ => ?_) (fun h9 => absurd h9 (by decide))
  refine pm_bl [(.iconst 0, 1, 0, 0, 0), (.aload_n 0, 1, 0, 0, 0), (.getfield 10, 3, 9, 0, 0), (.getfield 242, 3, 5, 6, 0)] (pc1 := 81) (lo1 := [some (.ref 0), some (.int (nI h)), some (.int y), some (.int 0)]) (st1 := [.int (μ1.1 1 6), .int 0, .int y, .int (nI h), .ref 26]) (μ1 := μ1) (vc := True) rfl (by decide +kernel) rfl trivial ?_
  rw [lr_rT hR1]
  refine pm_callV2 mi_X4_add (ix := 245) (b := 26) (ci := 4) (kc2 := 1) (ks2 := 6) (As := [.int (nI h), .int y, .int 0, .int (g 0)]) (rest := []) (c_X4_add (nI h) y 0 (g 0) μ1 hR1 hG.B (lr_gl hG) hn) cal_X4_add lk9_245 (by decide +kernel) rfl (by decide +kernel) rfl rfl rfl rfl (Nat.le_of_ble_eq_true rfl) (by decide) (by decide) (fun _ _ h9 => h9.elim) ?_
  rintro _ μ3 ⟨rfl, hf3, hR3⟩
  show pm_V _ _ _ _ 84 _ [.int (nI (lr_n g 289))] _
  exact pm_iret (ty := .int) rfl rfl (by decide) (by decide) (by decide +kernel) (⟨rfl, hFC.tr hf3, hR3, hH1.fr (fun i hi => hf3.1 i (by omega))⟩)
set_option maxHeartbeats 4000000 in
set_option maxRecDepth 100000 in
theorem c_X9_addLetter_y1 {g : Nat → Int32} {c n : Nat} {F : Nat → Nat → Int32} {h : Nat} {y : Int32} (μ : pm_Mm) (hR : lr_Rel μ.1 1 g) (hG : lr_G g) (hh : h < lr_n g 35) (hl : lr_in y 1 9 = true) (hn : lr_n g 289 < 30) (hH : lr_Hs μ.1 c n F) : pm_CT mi_X9_addLetter [.ref 0, .int (nI h), .int y, .int 1] μ (fun v μ2 => v = some (.int (nI (lr_n g 289))) ∧ lr_fc μ μ2 ∧ lr_Rel μ2.1 1 (lr_glet g (nI h) y 1 (g 0)) ∧ lr_Hs μ2.1 (min (c + 1) 8) ((n + 1) % 8) (lr_psh c F g)) pm_NX := by
  refine pm_CT_of (lo := [some (.ref 0), some (.int (nI h)), some (.int y), some (.int 1)]) (by decide +kernel) rfl rfl (by intro v hv; simp at hv; rcases hv with rfl | rfl | rfl | rfl <;> rfl) (Nat.le_of_ble_eq_true rfl) rfl ?_
  have hm1 := lr_mh hG; have hm2 := lr_mw hG; have hm3 := lr_mp hG; have hm4 := lr_mr hG; have hm5 := lr_ma hG; have hm6 := lr_ml hG
  refine pm_bl [(.aload_n 0, 1, 0, 0, 0), (.iload_n 1, 1, 1, 0, 0)] (pc1 := 2) (lo1 := [some (.ref 0), some (.int (nI h)), some (.int y), some (.int 1)]) (st1 := [.int (nI h), .ref 0]) (μ1 := μ) (vc := True) rfl (by decide +kernel) rfl trivial ?_
  refine pm_callV2 mi_X9_requirePerson (ix := 151) (b := 0) (ci := 9) (kc2 := 1) (ks2 := 6) (As := [.int (nI h)]) (rest := []) (c_X9_requirePerson (nI h) μ (by first | exact hR | exact hR1) hG (lr_be_1 hh (by omega))) cal_X9_requirePerson lk9_151 (by decide +kernel) rfl (by decide +kernel) rfl rfl rfl rfl (Nat.le_of_ble_eq_true rfl) (by decide) (by decide) (fun _ _ h9 => h9.elim) ?_
  rintro _ _ ⟨rfl, h9⟩; rw [h9]; clear h9
  show pm_V _ _ _ _ 5 _ [] _
  refine pm_bl [(.iload_n 2, 1, 2, 0, 0), (.iconst 1, 1, 0, 0, 1), (.bipush 9, 2, 0, 0, 9)] (pc1 := 9) (lo1 := [some (.ref 0), some (.int (nI h)), some (.int y), some (.int 1)]) (st1 := [.int 9, .int 1, .int y]) (μ1 := μ) (vc := True) rfl (by decide +kernel) rfl trivial ?_
  refine pm_callS2 mi_X9_isBetween (ix := 102) (kc2 := 1) (ks2 := 6) (As := [.int y, .int 1, .int 9]) (rest := []) (c_X9_isBetween y 1 9 μ) cal_X9_isBetween lk9_102 (by decide +kernel) rfl (by decide +kernel) rfl rfl (Nat.le_of_ble_eq_true rfl) (by decide) (by decide) (fun _ _ h9 => h9.elim) ?_
  rintro _ _ ⟨rfl, h9⟩; rw [h9]; clear h9
  show pm_V _ _ _ _ 12 _ [.int (lr_b (lr_in y 1 9))] _
  refine pm_ifb_ne (off := 13) 25 (by decide +kernel) (by decide) (fun (h12 : (lr_in y 1 9) = true) => ?_) (fun (h9 : (lr_in y 1 9) = false) => absurd (hl.symm.trans h9) (by decide))
  refine pm_bl [(.aload_n 0, 1, 0, 0, 0), (.getfield 10, 3, 9, 0, 0), (.getfield 235, 3, 5, 5, 0), (.getfield 239, 3, 4, 0, 0)] (pc1 := 35) (lo1 := [some (.ref 0), some (.int (nI h)), some (.int y), some (.int 1)]) (st1 := [.int (μ.1 26 0)]) (μ1 := μ) (vc := True) rfl (by decide +kernel) rfl trivial ?_
  rw [lr_rNl hR, lr_gl hG]
  refine pm_bl [(.bipush 30, 2, 0, 0, 30)] (pc1 := 37) (lo1 := [some (.ref 0), some (.int (nI h)), some (.int y), some (.int 1)]) (st1 := [.int 30, .int (nI (lr_n g 289))]) (μ1 := μ) (vc := True) rfl (by decide +kernel) rfl trivial ?_
  refine pm_icmp_lt (off := 8) 45 (by decide +kernel) (by decide) (fun (h37 : (nI (lr_n g 289)) < 30) => ?_) (fun (h9 : ¬ ((nI (lr_n g 289)) < 30)) => absurd (nI_lt (b := 30) hn (by decide)) h9)
  refine pm_bl [(.aload_n 0, 1, 0, 0, 0), (.getfield 19, 3, 9, 1, 0), (.aload_n 0, 1, 0, 0, 0), (.getfield 10, 3, 9, 0, 0)] (pc1 := 53) (lo1 := [some (.ref 0), some (.int (nI h)), some (.int y), some (.int 1)]) (st1 := [.ref 1, .ref 45]) (μ1 := μ) (vc := True) rfl (by decide +kernel) rfl trivial ?_
  refine pm_callV2 mi_X2_keep (ix := 78) (b := 45) (ci := 2) (kc2 := 1) (ks2 := 6) (As := [.ref 1]) (rest := []) (c_X2_keep (c := c) (n := n) μ hR hG.B hH.2.1 hH.2.2.2.1 hH.2.2.1 hH.1) cal_X2_keep lk9_78 (by decide +kernel) rfl (by decide +kernel) rfl rfl rfl rfl (Nat.le_of_ble_eq_true rfl) (by decide) (by decide) (fun _ _ h9 => h9.elim) ?_
  rintro _ μ1 ⟨rfl, h2k, hfk, hRk, hck, hnk⟩
  obtain ⟨hFC, hR1, hH1⟩ := lr_keep_ok hR hH h2k hfk hRk hck hnk
  show pm_V _ _ _ _ 56 _ [] _
  refine pm_bl [(.aload_n 0, 1, 0, 0, 0), (.getfield 10, 3, 9, 0, 0), (.getfield 235, 3, 5, 5, 0), (.iload_n 1, 1, 1, 0, 0), (.iload_n 2, 1, 2, 0, 0), (.iload_n 3, 1, 3, 0, 0)] (pc1 := 66) (lo1 := [some (.ref 0), some (.int (nI h)), some (.int y), some (.int 1)]) (st1 := [.int 1, .int y, .int (nI h), .ref 26]) (μ1 := μ1) (vc := True) rfl (by decide +kernel) rfl trivial ?_
  refine pm_if_eq (off := 7) 73 (by decide +kernel) (by decide) (fun h9 => absurd h9 (by decide)) (fun _ => ?_)
  refine pm_bl [(.iconst 1, 1, 0, 0, 1), (.goto 4, 3, 74, 0, 0), (.aload_n 0, 1, 0, 0, 0), (.getfield 10, 3, 9, 0, 0), (.getfield 242, 3, 5, 6, 0)] (pc1 := 81) (lo1 := [some (.ref 0), some (.int (nI h)), some (.int y), some (.int 1)]) (st1 := [.int (μ1.1 1 6), .int 1, .int y, .int (nI h), .ref 26]) (μ1 := μ1) (vc := True) rfl (by decide +kernel) rfl trivial ?_
  rw [lr_rT hR1]
  refine pm_callV2 mi_X4_add (ix := 245) (b := 26) (ci := 4) (kc2 := 1) (ks2 := 6) (As := [.int (nI h), .int y, .int 1, .int (g 0)]) (rest := []) (c_X4_add (nI h) y 1 (g 0) μ1 hR1 hG.B (lr_gl hG) hn) cal_X4_add lk9_245 (by decide +kernel) rfl (by decide +kernel) rfl rfl rfl rfl (Nat.le_of_ble_eq_true rfl) (by decide) (by decide) (fun _ _ h9 => h9.elim) ?_
  rintro _ μ3 ⟨rfl, hf3, hR3⟩
  show pm_V _ _ _ _ 84 _ [.int (nI (lr_n g 289))] _
  exact pm_iret (ty := .int) rfl rfl (by decide) (by decide) (by decide +kernel) (⟨rfl, hFC.tr hf3, hR3, hH1.fr (fun i hi => hf3.1 i (by omega))⟩)
