/-! the class: a letter's numbers -/
set_option maxHeartbeats 4000000 in
set_option maxRecDepth 100000 in
theorem c_X4_numberOf_0 {g : Nat → Int32} {h : Nat} (μ : pm_Mm) (hR : lr_Rel μ.1 1 g) (hG : lr_G g) (hh : h < lr_n g 289) : pm_CT mi_X4_numberOf [.ref 26, .int (nI h), .int 0] μ (fun v μ2 => v = some (.int (g (290 + 11 * h))) ∧ μ2 = μ) pm_NX := by
  refine pm_CT_of (lo := [some (.ref 26), some (.int (nI h)), some (.int 0)]) (by decide +kernel) rfl rfl (by intro v hv; simp at hv; rcases hv with rfl | rfl | rfl <;> rfl) (Nat.le_of_ble_eq_true rfl) rfl ?_
  have hm1 := lr_mh hG; have hm2 := lr_mw hG; have hm3 := lr_mp hG; have hm4 := lr_mr hG; have hm5 := lr_ma hG; have hm6 := lr_ml hG
  refine pm_bl [(.iload_n 2, 1, 2, 0, 0)] (pc1 := 1) (lo1 := [some (.ref 26), some (.int (nI h)), some (.int 0)]) (st1 := [.int 0]) (μ1 := μ) (vc := True) rfl (by decide +kernel) rfl trivial ?_
  refine pm_tswI (dflt := 125) (a := 0) (b := 9) (offs := #[55, 62, 69, 76, 83, 90, 97, 104, 111, 118]) (len := 55) (off := 55) 56 (by decide +kernel) (by decide) (by decide) (by decide) (by decide) ?_
  refine pm_bl [(.aload_n 0, 1, 0, 0, 0), (.getfield 18, 3, 4, 2, 0), (.iload_n 1, 1, 1, 0, 0), (.iaload, 1, 0, 0, 0)] (pc1 := 62) (lo1 := [some (.ref 26), some (.int (nI h)), some (.int 0)]) (st1 := [.int (μ.1 27 (nI h).toNatClampNeg)]) (μ1 := μ) (vc := vp_in (nI h) 30 ∧ True) rfl (by decide +kernel) rfl ⟨(vp_in_nI (by omega) (by omega)), trivial⟩ ?_
  first | rw [nI_clamp (n := h) (by omega), lr_rlpe hR (i := h) hh] | rw [lr_rlpe hR (i := h) hh]
  exact pm_iret (ty := .int) rfl rfl (by decide) (by decide) (by decide +kernel) (⟨rfl, rfl⟩)
set_option maxHeartbeats 4000000 in
set_option maxRecDepth 100000 in
theorem c_X4_numberOf_1 {g : Nat → Int32} {h : Nat} (μ : pm_Mm) (hR : lr_Rel μ.1 1 g) (hG : lr_G g) (hh : h < lr_n g 289) : pm_CT mi_X4_numberOf [.ref 26, .int (nI h), .int 1] μ (fun v μ2 => v = some (.int (g (291 + 11 * h))) ∧ μ2 = μ) pm_NX := by
  refine pm_CT_of (lo := [some (.ref 26), some (.int (nI h)), some (.int 1)]) (by decide +kernel) rfl rfl (by intro v hv; simp at hv; rcases hv with rfl | rfl | rfl <;> rfl) (Nat.le_of_ble_eq_true rfl) rfl ?_
  have hm1 := lr_mh hG; have hm2 := lr_mw hG; have hm3 := lr_mp hG; have hm4 := lr_mr hG; have hm5 := lr_ma hG; have hm6 := lr_ml hG
  refine pm_bl [(.iload_n 2, 1, 2, 0, 0)] (pc1 := 1) (lo1 := [some (.ref 26), some (.int (nI h)), some (.int 1)]) (st1 := [.int 1]) (μ1 := μ) (vc := True) rfl (by decide +kernel) rfl trivial ?_
  refine pm_tswI (dflt := 125) (a := 0) (b := 9) (offs := #[55, 62, 69, 76, 83, 90, 97, 104, 111, 118]) (len := 55) (off := 62) 63 (by decide +kernel) (by decide) (by decide) (by decide) (by decide) ?_
  refine pm_bl [(.aload_n 0, 1, 0, 0, 0), (.getfield 22, 3, 4, 3, 0), (.iload_n 1, 1, 1, 0, 0), (.iaload, 1, 0, 0, 0)] (pc1 := 69) (lo1 := [some (.ref 26), some (.int (nI h)), some (.int 1)]) (st1 := [.int (μ.1 28 (nI h).toNatClampNeg)]) (μ1 := μ) (vc := vp_in (nI h) 30 ∧ True) rfl (by decide +kernel) rfl ⟨(vp_in_nI (by omega) (by omega)), trivial⟩ ?_
  first | rw [nI_clamp (n := h) (by omega), lr_rlwe hR (i := h) hh] | rw [lr_rlwe hR (i := h) hh]
  exact pm_iret (ty := .int) rfl rfl (by decide) (by decide) (by decide +kernel) (⟨rfl, rfl⟩)
set_option maxHeartbeats 4000000 in
set_option maxRecDepth 100000 in
theorem c_X4_numberOf_2 {g : Nat → Int32} {h : Nat} (μ : pm_Mm) (hR : lr_Rel μ.1 1 g) (hG : lr_G g) (hh : h < lr_n g 289) : pm_CT mi_X4_numberOf [.ref 26, .int (nI h), .int 2] μ (fun v μ2 => v = some (.int (g (292 + 11 * h))) ∧ μ2 = μ) pm_NX := by
  refine pm_CT_of (lo := [some (.ref 26), some (.int (nI h)), some (.int 2)]) (by decide +kernel) rfl rfl (by intro v hv; simp at hv; rcases hv with rfl | rfl | rfl <;> rfl) (Nat.le_of_ble_eq_true rfl) rfl ?_
  have hm1 := lr_mh hG; have hm2 := lr_mw hG; have hm3 := lr_mp hG; have hm4 := lr_mr hG; have hm5 := lr_ma hG; have hm6 := lr_ml hG
  refine pm_bl [(.iload_n 2, 1, 2, 0, 0)] (pc1 := 1) (lo1 := [some (.ref 26), some (.int (nI h)), some (.int 2)]) (st1 := [.int 2]) (μ1 := μ) (vc := True) rfl (by decide +kernel) rfl trivial ?_
  refine pm_tswI (dflt := 125) (a := 0) (b := 9) (offs := #[55, 62, 69, 76, 83, 90, 97, 104, 111, 118]) (len := 55) (off := 69) 70 (by decide +kernel) (by decide) (by decide) (by decide) (by decide) ?_
  refine pm_bl [(.aload_n 0, 1, 0, 0, 0), (.getfield 25, 3, 4, 4, 0), (.iload_n 1, 1, 1, 0, 0), (.iaload, 1, 0, 0, 0)] (pc1 := 76) (lo1 := [some (.ref 26), some (.int (nI h)), some (.int 2)]) (st1 := [.int (μ.1 29 (nI h).toNatClampNeg)]) (μ1 := μ) (vc := vp_in (nI h) 30 ∧ True) rfl (by decide +kernel) rfl ⟨(vp_in_nI (by omega) (by omega)), trivial⟩ ?_
  first | rw [nI_clamp (n := h) (by omega), lr_rlre hR (i := h) hh] | rw [lr_rlre hR (i := h) hh]
  exact pm_iret (ty := .int) rfl rfl (by decide) (by decide) (by decide +kernel) (⟨rfl, rfl⟩)
set_option maxHeartbeats 4000000 in
set_option maxRecDepth 100000 in
theorem c_X4_numberOf_3 {g : Nat → Int32} {h : Nat} (μ : pm_Mm) (hR : lr_Rel μ.1 1 g) (hG : lr_G g) (hh : h < lr_n g 289) : pm_CT mi_X4_numberOf [.ref 26, .int (nI h), .int 3] μ (fun v μ2 => v = some (.int (g (293 + 11 * h))) ∧ μ2 = μ) pm_NX := by
  refine pm_CT_of (lo := [some (.ref 26), some (.int (nI h)), some (.int 3)]) (by decide +kernel) rfl rfl (by intro v hv; simp at hv; rcases hv with rfl | rfl | rfl <;> rfl) (Nat.le_of_ble_eq_true rfl) rfl ?_
  have hm1 := lr_mh hG; have hm2 := lr_mw hG; have hm3 := lr_mp hG; have hm4 := lr_mr hG; have hm5 := lr_ma hG; have hm6 := lr_ml hG
  refine pm_bl [(.iload_n 2, 1, 2, 0, 0)] (pc1 := 1) (lo1 := [some (.ref 26), some (.int (nI h)), some (.int 3)]) (st1 := [.int 3]) (μ1 := μ) (vc := True) rfl (by decide +kernel) rfl trivial ?_
  refine pm_tswI (dflt := 125) (a := 0) (b := 9) (offs := #[55, 62, 69, 76, 83, 90, 97, 104, 111, 118]) (len := 55) (off := 76) 77 (by decide +kernel) (by decide) (by decide) (by decide) (by decide) ?_
  refine pm_bl [(.aload_n 0, 1, 0, 0, 0), (.getfield 28, 3, 4, 5, 0), (.iload_n 1, 1, 1, 0, 0), (.iaload, 1, 0, 0, 0)] (pc1 := 83) (lo1 := [some (.ref 26), some (.int (nI h)), some (.int 3)]) (st1 := [.int (μ.1 30 (nI h).toNatClampNeg)]) (μ1 := μ) (vc := vp_in (nI h) 30 ∧ True) rfl (by decide +kernel) rfl ⟨(vp_in_nI (by omega) (by omega)), trivial⟩ ?_
  first | rw [nI_clamp (n := h) (by omega), lr_rlca hR (i := h) hh] | rw [lr_rlca hR (i := h) hh]
  exact pm_iret (ty := .int) rfl rfl (by decide) (by decide) (by decide +kernel) (⟨rfl, rfl⟩)
set_option maxHeartbeats 4000000 in
set_option maxRecDepth 100000 in
theorem c_X4_numberOf_4 {g : Nat → Int32} {h : Nat} (μ : pm_Mm) (hR : lr_Rel μ.1 1 g) (hG : lr_G g) (hh : h < lr_n g 289) : pm_CT mi_X4_numberOf [.ref 26, .int (nI h), .int 4] μ (fun v μ2 => v = some (.int (g (294 + 11 * h))) ∧ μ2 = μ) pm_NX := by
  refine pm_CT_of (lo := [some (.ref 26), some (.int (nI h)), some (.int 4)]) (by decide +kernel) rfl rfl (by intro v hv; simp at hv; rcases hv with rfl | rfl | rfl <;> rfl) (Nat.le_of_ble_eq_true rfl) rfl ?_
  have hm1 := lr_mh hG; have hm2 := lr_mw hG; have hm3 := lr_mp hG; have hm4 := lr_mr hG; have hm5 := lr_ma hG; have hm6 := lr_ml hG
  refine pm_bl [(.iload_n 2, 1, 2, 0, 0)] (pc1 := 1) (lo1 := [some (.ref 26), some (.int (nI h)), some (.int 4)]) (st1 := [.int 4]) (μ1 := μ) (vc := True) rfl (by decide +kernel) rfl trivial ?_
  refine pm_tswI (dflt := 125) (a := 0) (b := 9) (offs := #[55, 62, 69, 76, 83, 90, 97, 104, 111, 118]) (len := 55) (off := 83) 84 (by decide +kernel) (by decide) (by decide) (by decide) (by decide) ?_
  refine pm_bl [(.aload_n 0, 1, 0, 0, 0), (.getfield 31, 3, 4, 6, 0), (.iload_n 1, 1, 1, 0, 0), (.iaload, 1, 0, 0, 0)] (pc1 := 90) (lo1 := [some (.ref 26), some (.int (nI h)), some (.int 4)]) (st1 := [.int (μ.1 31 (nI h).toNatClampNeg)]) (μ1 := μ) (vc := vp_in (nI h) 30 ∧ True) rfl (by decide +kernel) rfl ⟨(vp_in_nI (by omega) (by omega)), trivial⟩ ?_
  first | rw [nI_clamp (n := h) (by omega), lr_rlst hR (i := h) hh] | rw [lr_rlst hR (i := h) hh]
  exact pm_iret (ty := .int) rfl rfl (by decide) (by decide) (by decide +kernel) (⟨rfl, rfl⟩)
set_option maxHeartbeats 4000000 in
set_option maxRecDepth 100000 in
theorem c_X4_numberOf_5 {g : Nat → Int32} {h : Nat} (μ : pm_Mm) (hR : lr_Rel μ.1 1 g) (hG : lr_G g) (hh : h < lr_n g 289) : pm_CT mi_X4_numberOf [.ref 26, .int (nI h), .int 5] μ (fun v μ2 => v = some (.int (g (295 + 11 * h))) ∧ μ2 = μ) pm_NX := by
  refine pm_CT_of (lo := [some (.ref 26), some (.int (nI h)), some (.int 5)]) (by decide +kernel) rfl rfl (by intro v hv; simp at hv; rcases hv with rfl | rfl | rfl <;> rfl) (Nat.le_of_ble_eq_true rfl) rfl ?_
  have hm1 := lr_mh hG; have hm2 := lr_mw hG; have hm3 := lr_mp hG; have hm4 := lr_mr hG; have hm5 := lr_ma hG; have hm6 := lr_ml hG
  refine pm_bl [(.iload_n 2, 1, 2, 0, 0)] (pc1 := 1) (lo1 := [some (.ref 26), some (.int (nI h)), some (.int 5)]) (st1 := [.int 5]) (μ1 := μ) (vc := True) rfl (by decide +kernel) rfl trivial ?_
  refine pm_tswI (dflt := 125) (a := 0) (b := 9) (offs := #[55, 62, 69, 76, 83, 90, 97, 104, 111, 118]) (len := 55) (off := 90) 91 (by decide +kernel) (by decide) (by decide) (by decide) (by decide) ?_
  refine pm_bl [(.aload_n 0, 1, 0, 0, 0), (.getfield 34, 3, 4, 7, 0), (.iload_n 1, 1, 1, 0, 0), (.iaload, 1, 0, 0, 0)] (pc1 := 97) (lo1 := [some (.ref 26), some (.int (nI h)), some (.int 5)]) (st1 := [.int (μ.1 32 (nI h).toNatClampNeg)]) (μ1 := μ) (vc := vp_in (nI h) 30 ∧ True) rfl (by decide +kernel) rfl ⟨(vp_in_nI (by omega) (by omega)), trivial⟩ ?_
  first | rw [nI_clamp (n := h) (by omega), lr_rlen hR (i := h) hh] | rw [lr_rlen hR (i := h) hh]
  exact pm_iret (ty := .int) rfl rfl (by decide) (by decide) (by decide +kernel) (⟨rfl, rfl⟩)
set_option maxHeartbeats 4000000 in
set_option maxRecDepth 100000 in
theorem c_X4_numberOf_6 {g : Nat → Int32} {h : Nat} (μ : pm_Mm) (hR : lr_Rel μ.1 1 g) (hG : lr_G g) (hh : h < lr_n g 289) : pm_CT mi_X4_numberOf [.ref 26, .int (nI h), .int 6] μ (fun v μ2 => v = some (.int (g (296 + 11 * h))) ∧ μ2 = μ) pm_NX := by
  refine pm_CT_of (lo := [some (.ref 26), some (.int (nI h)), some (.int 6)]) (by decide +kernel) rfl rfl (by intro v hv; simp at hv; rcases hv with rfl | rfl | rfl <;> rfl) (Nat.le_of_ble_eq_true rfl) rfl ?_
  have hm1 := lr_mh hG; have hm2 := lr_mw hG; have hm3 := lr_mp hG; have hm4 := lr_mr hG; have hm5 := lr_ma hG; have hm6 := lr_ml hG
  refine pm_bl [(.iload_n 2, 1, 2, 0, 0)] (pc1 := 1) (lo1 := [some (.ref 26), some (.int (nI h)), some (.int 6)]) (st1 := [.int 6]) (μ1 := μ) (vc := True) rfl (by decide +kernel) rfl trivial ?_
  refine pm_tswI (dflt := 125) (a := 0) (b := 9) (offs := #[55, 62, 69, 76, 83, 90, 97, 104, 111, 118]) (len := 55) (off := 97) 98 (by decide +kernel) (by decide) (by decide) (by decide) (by decide) ?_
  refine pm_bl [(.aload_n 0, 1, 0, 0, 0), (.getfield 37, 3, 4, 8, 0), (.iload_n 1, 1, 1, 0, 0), (.iaload, 1, 0, 0, 0)] (pc1 := 104) (lo1 := [some (.ref 26), some (.int (nI h)), some (.int 6)]) (st1 := [.int (μ.1 33 (nI h).toNatClampNeg)]) (μ1 := μ) (vc := vp_in (nI h) 30 ∧ True) rfl (by decide +kernel) rfl ⟨(vp_in_nI (by omega) (by omega)), trivial⟩ ?_
  first | rw [nI_clamp (n := h) (by omega), lr_rlrs hR (i := h) hh] | rw [lr_rlrs hR (i := h) hh]
  exact pm_iret (ty := .int) rfl rfl (by decide) (by decide) (by decide +kernel) (⟨rfl, rfl⟩)
set_option maxHeartbeats 4000000 in
set_option maxRecDepth 100000 in
theorem c_X4_numberOf_7 {g : Nat → Int32} {h : Nat} (μ : pm_Mm) (hR : lr_Rel μ.1 1 g) (hG : lr_G g) (hh : h < lr_n g 289) : pm_CT mi_X4_numberOf [.ref 26, .int (nI h), .int 7] μ (fun v μ2 => v = some (.int (g (297 + 11 * h))) ∧ μ2 = μ) pm_NX := by
  refine pm_CT_of (lo := [some (.ref 26), some (.int (nI h)), some (.int 7)]) (by decide +kernel) rfl rfl (by intro v hv; simp at hv; rcases hv with rfl | rfl | rfl <;> rfl) (Nat.le_of_ble_eq_true rfl) rfl ?_
  have hm1 := lr_mh hG; have hm2 := lr_mw hG; have hm3 := lr_mp hG; have hm4 := lr_mr hG; have hm5 := lr_ma hG; have hm6 := lr_ml hG
  refine pm_bl [(.iload_n 2, 1, 2, 0, 0)] (pc1 := 1) (lo1 := [some (.ref 26), some (.int (nI h)), some (.int 7)]) (st1 := [.int 7]) (μ1 := μ) (vc := True) rfl (by decide +kernel) rfl trivial ?_
  refine pm_tswI (dflt := 125) (a := 0) (b := 9) (offs := #[55, 62, 69, 76, 83, 90, 97, 104, 111, 118]) (len := 55) (off := 104) 105 (by decide +kernel) (by decide) (by decide) (by decide) (by decide) ?_
  refine pm_bl [(.aload_n 0, 1, 0, 0, 0), (.getfield 40, 3, 4, 9, 0), (.iload_n 1, 1, 1, 0, 0), (.iaload, 1, 0, 0, 0)] (pc1 := 111) (lo1 := [some (.ref 26), some (.int (nI h)), some (.int 7)]) (st1 := [.int (μ.1 34 (nI h).toNatClampNeg)]) (μ1 := μ) (vc := vp_in (nI h) 30 ∧ True) rfl (by decide +kernel) rfl ⟨(vp_in_nI (by omega) (by omega)), trivial⟩ ?_
  first | rw [nI_clamp (n := h) (by omega), lr_rltr hR (i := h) hh] | rw [lr_rltr hR (i := h) hh]
  exact pm_iret (ty := .int) rfl rfl (by decide) (by decide) (by decide +kernel) (⟨rfl, rfl⟩)
set_option maxHeartbeats 4000000 in
set_option maxRecDepth 100000 in
theorem c_X4_numberOf_8 {g : Nat → Int32} {h : Nat} (μ : pm_Mm) (hR : lr_Rel μ.1 1 g) (hG : lr_G g) (hh : h < lr_n g 289) : pm_CT mi_X4_numberOf [.ref 26, .int (nI h), .int 8] μ (fun v μ2 => v = some (.int (g (298 + 11 * h))) ∧ μ2 = μ) pm_NX := by
  refine pm_CT_of (lo := [some (.ref 26), some (.int (nI h)), some (.int 8)]) (by decide +kernel) rfl rfl (by intro v hv; simp at hv; rcases hv with rfl | rfl | rfl <;> rfl) (Nat.le_of_ble_eq_true rfl) rfl ?_
  have hm1 := lr_mh hG; have hm2 := lr_mw hG; have hm3 := lr_mp hG; have hm4 := lr_mr hG; have hm5 := lr_ma hG; have hm6 := lr_ml hG
  refine pm_bl [(.iload_n 2, 1, 2, 0, 0)] (pc1 := 1) (lo1 := [some (.ref 26), some (.int (nI h)), some (.int 8)]) (st1 := [.int 8]) (μ1 := μ) (vc := True) rfl (by decide +kernel) rfl trivial ?_
  refine pm_tswI (dflt := 125) (a := 0) (b := 9) (offs := #[55, 62, 69, 76, 83, 90, 97, 104, 111, 118]) (len := 55) (off := 111) 112 (by decide +kernel) (by decide) (by decide) (by decide) (by decide) ?_
  refine pm_bl [(.aload_n 0, 1, 0, 0, 0), (.getfield 43, 3, 4, 10, 0), (.iload_n 1, 1, 1, 0, 0), (.iaload, 1, 0, 0, 0)] (pc1 := 118) (lo1 := [some (.ref 26), some (.int (nI h)), some (.int 8)]) (st1 := [.int (μ.1 35 (nI h).toNatClampNeg)]) (μ1 := μ) (vc := vp_in (nI h) 30 ∧ True) rfl (by decide +kernel) rfl ⟨(vp_in_nI (by omega) (by omega)), trivial⟩ ?_
  first | rw [nI_clamp (n := h) (by omega), lr_rlho hR (i := h) hh] | rw [lr_rlho hR (i := h) hh]
  exact pm_iret (ty := .int) rfl rfl (by decide) (by decide) (by decide +kernel) (⟨rfl, rfl⟩)
set_option maxHeartbeats 4000000 in
set_option maxRecDepth 100000 in
theorem c_X4_numberOf_9 {g : Nat → Int32} {h : Nat} (μ : pm_Mm) (hR : lr_Rel μ.1 1 g) (hG : lr_G g) (hh : h < lr_n g 289) : pm_CT mi_X4_numberOf [.ref 26, .int (nI h), .int 9] μ (fun v μ2 => v = some (.int (g (299 + 11 * h))) ∧ μ2 = μ) pm_NX := by
  refine pm_CT_of (lo := [some (.ref 26), some (.int (nI h)), some (.int 9)]) (by decide +kernel) rfl rfl (by intro v hv; simp at hv; rcases hv with rfl | rfl | rfl <;> rfl) (Nat.le_of_ble_eq_true rfl) rfl ?_
  have hm1 := lr_mh hG; have hm2 := lr_mw hG; have hm3 := lr_mp hG; have hm4 := lr_mr hG; have hm5 := lr_ma hG; have hm6 := lr_ml hG
  refine pm_bl [(.iload_n 2, 1, 2, 0, 0)] (pc1 := 1) (lo1 := [some (.ref 26), some (.int (nI h)), some (.int 9)]) (st1 := [.int 9]) (μ1 := μ) (vc := True) rfl (by decide +kernel) rfl trivial ?_
  refine pm_tswI (dflt := 125) (a := 0) (b := 9) (offs := #[55, 62, 69, 76, 83, 90, 97, 104, 111, 118]) (len := 55) (off := 118) 119 (by decide +kernel) (by decide) (by decide) (by decide) (by decide) ?_
  refine pm_bl [(.aload_n 0, 1, 0, 0, 0), (.getfield 46, 3, 4, 11, 0), (.iload_n 1, 1, 1, 0, 0), (.iaload, 1, 0, 0, 0)] (pc1 := 125) (lo1 := [some (.ref 26), some (.int (nI h)), some (.int 9)]) (st1 := [.int (μ.1 36 (nI h).toNatClampNeg)]) (μ1 := μ) (vc := vp_in (nI h) 30 ∧ True) rfl (by decide +kernel) rfl ⟨(vp_in_nI (by omega) (by omega)), trivial⟩ ?_
  first | rw [nI_clamp (n := h) (by omega), lr_rlsi hR (i := h) hh] | rw [lr_rlsi hR (i := h) hh]
  exact pm_iret (ty := .int) rfl rfl (by decide) (by decide) (by decide +kernel) (⟨rfl, rfl⟩)
set_option maxHeartbeats 4000000 in
set_option maxRecDepth 100000 in
theorem c_X4_numberOf_10 {g : Nat → Int32} {h : Nat} (μ : pm_Mm) (hR : lr_Rel μ.1 1 g) (hG : lr_G g) (hh : h < lr_n g 289) : pm_CT mi_X4_numberOf [.ref 26, .int (nI h), .int 10] μ (fun v μ2 => v = some (.int (g (300 + 11 * h))) ∧ μ2 = μ) pm_NX := by
  refine pm_CT_of (lo := [some (.ref 26), some (.int (nI h)), some (.int 10)]) (by decide +kernel) rfl rfl (by intro v hv; simp at hv; rcases hv with rfl | rfl | rfl <;> rfl) (Nat.le_of_ble_eq_true rfl) rfl ?_
  have hm1 := lr_mh hG; have hm2 := lr_mw hG; have hm3 := lr_mp hG; have hm4 := lr_mr hG; have hm5 := lr_ma hG; have hm6 := lr_ml hG
  refine pm_bl [(.iload_n 2, 1, 2, 0, 0)] (pc1 := 1) (lo1 := [some (.ref 26), some (.int (nI h)), some (.int 10)]) (st1 := [.int 10]) (μ1 := μ) (vc := True) rfl (by decide +kernel) rfl trivial ?_
  refine pm_tswO (dflt := 125) (a := 0) (b := 9) (offs := #[55, 62, 69, 76, 83, 90, 97, 104, 111, 118]) (len := 55) 126 (by decide +kernel) (Or.inr (by decide)) (by decide) ?_
  refine pm_bl [(.aload_n 0, 1, 0, 0, 0), (.getfield 49, 3, 4, 12, 0), (.iload_n 1, 1, 1, 0, 0), (.iaload, 1, 0, 0, 0)] (pc1 := 132) (lo1 := [some (.ref 26), some (.int (nI h)), some (.int 10)]) (st1 := [.int (μ.1 37 (nI h).toNatClampNeg)]) (μ1 := μ) (vc := vp_in (nI h) 30 ∧ True) rfl (by decide +kernel) rfl ⟨(vp_in_nI (by omega) (by omega)), trivial⟩ ?_
  first | rw [nI_clamp (n := h) (by omega), lr_rlnu hR (i := h) hh] | rw [lr_rlnu hR (i := h) hh]
  exact pm_iret (ty := .int) rfl rfl (by decide) (by decide) (by decide +kernel) (⟨rfl, rfl⟩)
set_option maxHeartbeats 4000000 in
set_option maxRecDepth 100000 in
theorem c_X9_letter_no1 {g : Nat → Int32} {x : Int32} (y : Int32) (μ : pm_Mm) (hR : lr_Rel μ.1 1 g) (hG : lr_G g) (hb : lr_be x (nI (lr_n g 289)) = false) : pm_CT mi_X9_letter [.ref 0, .int x, .int y] μ (fun _ _ => False) (fun E μ2 => E = "java/lang/IndexOutOfBoundsException" ∧ μ2 = μ) := by
  refine pm_CT_of (lo := [some (.ref 0), some (.int x), some (.int y)]) (by decide +kernel) rfl rfl (by intro v hv; simp at hv; rcases hv with rfl | rfl | rfl <;> rfl) (Nat.le_of_ble_eq_true rfl) rfl ?_
  have hm1 := lr_mh hG; have hm2 := lr_mw hG; have hm3 := lr_mp hG; have hm4 := lr_mr hG; have hm5 := lr_ma hG; have hm6 := lr_ml hG
  refine pm_bl [(.aload_n 0, 1, 0, 0, 0), (.iload_n 1, 1, 1, 0, 0)] (pc1 := 2) (lo1 := [some (.ref 0), some (.int x), some (.int y)]) (st1 := [.int x, .ref 0]) (μ1 := μ) (vc := True) rfl (by decide +kernel) rfl trivial ?_
  refine pm_callV2 mi_X9_requireLetter (ix := 282) (b := 0) (ci := 9) (kc2 := 1) (ks2 := 6) (As := [.int x]) (rest := []) (c_X9_requireLetter_no x μ hR hG hb) cal_X9_requireLetter lk9_282 (by decide +kernel) rfl (by decide +kernel) rfl rfl rfl rfl (Nat.le_of_ble_eq_true rfl) (by decide) (by decide) (fun E μ9 h9 => h9) ?_
  rintro _ _ h9; exact h9.elim
set_option maxHeartbeats 4000000 in
set_option maxRecDepth 100000 in
theorem c_X9_letter_no2 {g : Nat → Int32} {h : Nat} {y : Int32} (μ : pm_Mm) (hR : lr_Rel μ.1 1 g) (hG : lr_G g) (hh : h < lr_n g 289) (hl : lr_in y 0 10 = false) : pm_CT mi_X9_letter [.ref 0, .int (nI h), .int y] μ (fun _ _ => False) (fun E μ2 => E = "java/lang/IllegalArgumentException" ∧ μ2 = μ) := by
  refine pm_CT_of (lo := [some (.ref 0), some (.int (nI h)), some (.int y)]) (by decide +kernel) rfl rfl (by intro v hv; simp at hv; rcases hv with rfl | rfl | rfl <;> rfl) (Nat.le_of_ble_eq_true rfl) rfl ?_
  have hm1 := lr_mh hG; have hm2 := lr_mw hG; have hm3 := lr_mp hG; have hm4 := lr_mr hG; have hm5 := lr_ma hG; have hm6 := lr_ml hG
  refine pm_bl [(.aload_n 0, 1, 0, 0, 0), (.iload_n 1, 1, 1, 0, 0)] (pc1 := 2) (lo1 := [some (.ref 0), some (.int (nI h)), some (.int y)]) (st1 := [.int (nI h), .ref 0]) (μ1 := μ) (vc := True) rfl (by decide +kernel) rfl trivial ?_
  refine pm_callV2 mi_X9_requireLetter (ix := 282) (b := 0) (ci := 9) (kc2 := 1) (ks2 := 6) (As := [.int (nI h)]) (rest := []) (c_X9_requireLetter (nI h) μ (by first | exact hR | exact hR1) hG (lr_be_1 hh (by omega))) cal_X9_requireLetter lk9_282 (by decide +kernel) rfl (by decide +kernel) rfl rfl rfl rfl (Nat.le_of_ble_eq_true rfl) (by decide) (by decide) (fun _ _ h9 => h9.elim) ?_
  rintro _ _ ⟨rfl, h9⟩; rw [h9]; clear h9
  show pm_V _ _ _ _ 5 _ [] _
  refine pm_bl [(.iload_n 2, 1, 2, 0, 0), (.iconst 0, 1, 0, 0, 0), (.bipush 10, 2, 0, 0, 10)] (pc1 := 9) (lo1 := [some (.ref 0), some (.int (nI h)), some (.int y)]) (st1 := [.int 10, .int 0, .int y]) (μ1 := μ) (vc := True) rfl (by decide +kernel) rfl trivial ?_
  refine pm_callS2 mi_X9_isBetween (ix := 102) (kc2 := 1) (ks2 := 6) (As := [.int y, .int 0, .int 10]) (rest := []) (c_X9_isBetween y 0 10 μ) cal_X9_isBetween lk9_102 (by decide +kernel) rfl (by decide +kernel) rfl rfl (Nat.le_of_ble_eq_true rfl) (by decide) (by decide) (fun _ _ h9 => h9.elim) ?_
  rintro _ _ ⟨rfl, h9⟩; rw [h9]; clear h9
  show pm_V _ _ _ _ 12 _ [.int (lr_b (lr_in y 0 10))] _
  refine pm_ifb_ne (off := 14) 26 (by decide +kernel) (by decide) (fun (h9 : (lr_in y 0 10) = true) => absurd (hl.symm.trans h9) (by decide)) (fun (h12 : (lr_in y 0 10) = false) => ?_)
  exact pm_throwW (is := 285) (tx := "what is not from 0 to 10") pm_exIA rfl (by decide +kernel) rfl (by decide +kernel) (by decide +kernel) (by decide +kernel) (by decide +kernel) (by decide +kernel) (by decide) (by decide) (⟨rfl, rfl⟩)
set_option maxHeartbeats 4000000 in
set_option maxRecDepth 100000 in
theorem c_X9_letter_0 {g : Nat → Int32} {h : Nat} (μ : pm_Mm) (hR : lr_Rel μ.1 1 g) (hG : lr_G g) (hh : h < lr_n g 289) : pm_CT mi_X9_letter [.ref 0, .int (nI h), .int 0] μ (fun v μ2 => v = some (.int (g (290 + 11 * h))) ∧ μ2 = μ) pm_NX := by
  refine pm_CT_of (lo := [some (.ref 0), some (.int (nI h)), some (.int 0)]) (by decide +kernel) rfl rfl (by intro v hv; simp at hv; rcases hv with rfl | rfl | rfl <;> rfl) (Nat.le_of_ble_eq_true rfl) rfl ?_
  have hm1 := lr_mh hG; have hm2 := lr_mw hG; have hm3 := lr_mp hG; have hm4 := lr_mr hG; have hm5 := lr_ma hG; have hm6 := lr_ml hG
  refine pm_bl [(.aload_n 0, 1, 0, 0, 0), (.iload_n 1, 1, 1, 0, 0)] (pc1 := 2) (lo1 := [some (.ref 0), some (.int (nI h)), some (.int 0)]) (st1 := [.int (nI h), .ref 0]) (μ1 := μ) (vc := True) rfl (by decide +kernel) rfl trivial ?_
  refine pm_callV2 mi_X9_requireLetter (ix := 282) (b := 0) (ci := 9) (kc2 := 1) (ks2 := 6) (As := [.int (nI h)]) (rest := []) (c_X9_requireLetter (nI h) μ (by first | exact hR | exact hR1) hG (lr_be_1 hh (by omega))) cal_X9_requireLetter lk9_282 (by decide +kernel) rfl (by decide +kernel) rfl rfl rfl rfl (Nat.le_of_ble_eq_true rfl) (by decide) (by decide) (fun _ _ h9 => h9.elim) ?_
  rintro _ _ ⟨rfl, h9⟩; rw [h9]; clear h9
  show pm_V _ _ _ _ 5 _ [] _
  refine pm_bl [(.iload_n 2, 1, 2, 0, 0), (.iconst 0, 1, 0, 0, 0), (.bipush 10, 2, 0, 0, 10)] (pc1 := 9) (lo1 := [some (.ref 0), some (.int (nI h)), some (.int 0)]) (st1 := [.int 10, .int 0, .int 0]) (μ1 := μ) (vc := True) rfl (by decide +kernel) rfl trivial ?_
  refine pm_callS2 mi_X9_isBetween (ix := 102) (kc2 := 1) (ks2 := 6) (As := [.int 0, .int 0, .int 10]) (rest := []) (c_X9_isBetween 0 0 10 μ) cal_X9_isBetween lk9_102 (by decide +kernel) rfl (by decide +kernel) rfl rfl (Nat.le_of_ble_eq_true rfl) (by decide) (by decide) (fun _ _ h9 => h9.elim) ?_
  rintro _ _ ⟨rfl, h9⟩; rw [h9]; clear h9
  show pm_V _ _ _ _ 12 _ [.int (lr_b (lr_in 0 0 10))] _
  refine pm_ifb_ne (off := 14) 26 (by decide +kernel) (by decide) (fun (h12 : (lr_in 0 0 10) = true) => ?_) (fun (h9 : (lr_in 0 0 10) = false) => absurd (h9.symm.trans (show lr_in 0 0 10 = true by decide)) (by decide))
  refine pm_bl [(.aload_n 0, 1, 0, 0, 0), (.getfield 10, 3, 9, 0, 0), (.getfield 235, 3, 5, 5, 0), (.iload_n 1, 1, 1, 0, 0), (.iload_n 2, 1, 2, 0, 0)] (pc1 := 35) (lo1 := [some (.ref 0), some (.int (nI h)), some (.int 0)]) (st1 := [.int 0, .int (nI h), .ref 26]) (μ1 := μ) (vc := True) rfl (by decide +kernel) rfl trivial ?_
  refine pm_callV2 mi_X4_numberOf (ix := 287) (b := 26) (ci := 4) (kc2 := 1) (ks2 := 6) (As := [.int (nI h), .int 0]) (rest := []) (c_X4_numberOf_0 (h := h) μ hR hG hh) cal_X4_numberOf lk9_287 (by decide +kernel) rfl (by decide +kernel) rfl rfl rfl rfl (Nat.le_of_ble_eq_true rfl) (by decide) (by decide) (fun _ _ h9 => h9.elim) ?_
  rintro _ _ ⟨rfl, h9⟩; rw [h9]; clear h9
  show pm_V _ _ _ _ 38 _ [.int (g (290 + 11 * h))] _
  exact pm_iret (ty := .int) rfl rfl (by decide) (by decide) (by decide +kernel) (⟨rfl, rfl⟩)
set_option maxHeartbeats 4000000 in
set_option maxRecDepth 100000 in
theorem c_X9_letter_1 {g : Nat → Int32} {h : Nat} (μ : pm_Mm) (hR : lr_Rel μ.1 1 g) (hG : lr_G g) (hh : h < lr_n g 289) : pm_CT mi_X9_letter [.ref 0, .int (nI h), .int 1] μ (fun v μ2 => v = some (.int (g (291 + 11 * h))) ∧ μ2 = μ) pm_NX := by
  refine pm_CT_of (lo := [some (.ref 0), some (.int (nI h)), some (.int 1)]) (by decide +kernel) rfl rfl (by intro v hv; simp at hv; rcases hv with rfl | rfl | rfl <;> rfl) (Nat.le_of_ble_eq_true rfl) rfl ?_
  have hm1 := lr_mh hG; have hm2 := lr_mw hG; have hm3 := lr_mp hG; have hm4 := lr_mr hG; have hm5 := lr_ma hG; have hm6 := lr_ml hG
  refine pm_bl [(.aload_n 0, 1, 0, 0, 0), (.iload_n 1, 1, 1, 0, 0)] (pc1 := 2) (lo1 := [some (.ref 0), some (.int (nI h)), some (.int 1)]) (st1 := [.int (nI h), .ref 0]) (μ1 := μ) (vc := True) rfl (by decide +kernel) rfl trivial ?_
  refine pm_callV2 mi_X9_requireLetter (ix := 282) (b := 0) (ci := 9) (kc2 := 1) (ks2 := 6) (As := [.int (nI h)]) (rest := []) (c_X9_requireLetter (nI h) μ (by first | exact hR | exact hR1) hG (lr_be_1 hh (by omega))) cal_X9_requireLetter lk9_282 (by decide +kernel) rfl (by decide +kernel) rfl rfl rfl rfl (Nat.le_of_ble_eq_true rfl) (by decide) (by decide) (fun _ _ h9 => h9.elim) ?_
  rintro _ _ ⟨rfl, h9⟩; rw [h9]; clear h9
  show pm_V _ _ _ _ 5 _ [] _
  refine pm_bl [(.iload_n 2, 1, 2, 0, 0), (.iconst 0, 1, 0, 0, 0), (.bipush 10, 2, 0, 0, 10)] (pc1 := 9) (lo1 := [some (.ref 0), some (.int (nI h)), some (.int 1)]) (st1 := [.int 10, .int 0, .int 1]) (μ1 := μ) (vc := True) rfl (by decide +kernel) rfl trivial ?_
  refine pm_callS2 mi_X9_isBetween (ix := 102) (kc2 := 1) (ks2 := 6) (As := [.int 1, .int 0, .int 10]) (rest := []) (c_X9_isBetween 1 0 10 μ) cal_X9_isBetween lk9_102 (by decide +kernel) rfl (by decide +kernel) rfl rfl (Nat.le_of_ble_eq_true rfl) (by decide) (by decide) (fun _ _ h9 => h9.elim) ?_
  rintro _ _ ⟨rfl, h9⟩; rw [h9]; clear h9
  show pm_V _ _ _ _ 12 _ [.int (lr_b (lr_in 1 0 10))] _
  refine pm_ifb_ne (off := 14) 26 (by decide +kernel) (by decide) (fun (h12 : (lr_in 1 0 10) = true) => ?_) (fun (h9 : (lr_in 1 0 10) = false) => absurd (h9.symm.trans (show lr_in 1 0 10 = true by decide)) (by decide))
  refine pm_bl [(.aload_n 0, 1, 0, 0, 0), (.getfield 10, 3, 9, 0, 0), (.getfield 235, 3, 5, 5, 0), (.iload_n 1, 1, 1, 0, 0), (.iload_n 2, 1, 2, 0, 0)] (pc1 := 35) (lo1 := [some (.ref 0), some (.int (nI h)), some (.int 1)]) (st1 := [.int 1, .int (nI h), .ref 26]) (μ1 := μ) (vc := True) rfl (by decide +kernel) rfl trivial ?_
  refine pm_callV2 mi_X4_numberOf (ix := 287) (b := 26) (ci := 4) (kc2 := 1) (ks2 := 6) (As := [.int (nI h), .int 1]) (rest := []) (c_X4_numberOf_1 (h := h) μ hR hG hh) cal_X4_numberOf lk9_287 (by decide +kernel) rfl (by decide +kernel) rfl rfl rfl rfl (Nat.le_of_ble_eq_true rfl) (by decide) (by decide) (fun _ _ h9 => h9.elim) ?_
  rintro _ _ ⟨rfl, h9⟩; rw [h9]; clear h9
  show pm_V _ _ _ _ 38 _ [.int (g (291 + 11 * h))] _
  exact pm_iret (ty := .int) rfl rfl (by decide) (by decide) (by decide +kernel) (⟨rfl, rfl⟩)
set_option maxHeartbeats 4000000 in
set_option maxRecDepth 100000 in
theorem c_X9_letter_2 {g : Nat → Int32} {h : Nat} (μ : pm_Mm) (hR : lr_Rel μ.1 1 g) (hG : lr_G g) (hh : h < lr_n g 289) : pm_CT mi_X9_letter [.ref 0, .int (nI h), .int 2] μ (fun v μ2 => v = some (.int (g (292 + 11 * h))) ∧ μ2 = μ) pm_NX := by
  refine pm_CT_of (lo := [some (.ref 0), some (.int (nI h)), some (.int 2)]) (by decide +kernel) rfl rfl (by intro v hv; simp at hv; rcases hv with rfl | rfl | rfl <;> rfl) (Nat.le_of_ble_eq_true rfl) rfl ?_
  have hm1 := lr_mh hG; have hm2 := lr_mw hG; have hm3 := lr_mp hG; have hm4 := lr_mr hG; have hm5 := lr_ma hG; have hm6 := lr_ml hG
  refine pm_bl [(.aload_n 0, 1, 0, 0, 0), (.iload_n 1, 1, 1, 0, 0)] (pc1 := 2) (lo1 := [some (.ref 0), some (.int (nI h)), some (.int 2)]) (st1 := [.int (nI h), .ref 0]) (μ1 := μ) (vc := True) rfl (by decide +kernel) rfl trivial ?_
  refine pm_callV2 mi_X9_requireLetter (ix := 282) (b := 0) (ci := 9) (kc2 := 1) (ks2 := 6) (As := [.int (nI h)]) (rest := []) (c_X9_requireLetter (nI h) μ (by first | exact hR | exact hR1) hG (lr_be_1 hh (by omega))) cal_X9_requireLetter lk9_282 (by decide +kernel) rfl (by decide +kernel) rfl rfl rfl rfl (Nat.le_of_ble_eq_true rfl) (by decide) (by decide) (fun _ _ h9 => h9.elim) ?_
  rintro _ _ ⟨rfl, h9⟩; rw [h9]; clear h9
  show pm_V _ _ _ _ 5 _ [] _
  refine pm_bl [(.iload_n 2, 1, 2, 0, 0), (.iconst 0, 1, 0, 0, 0), (.bipush 10, 2, 0, 0, 10)] (pc1 := 9) (lo1 := [some (.ref 0), some (.int (nI h)), some (.int 2)]) (st1 := [.int 10, .int 0, .int 2]) (μ1 := μ) (vc := True) rfl (by decide +kernel) rfl trivial ?_
  refine pm_callS2 mi_X9_isBetween (ix := 102) (kc2 := 1) (ks2 := 6) (As := [.int 2, .int 0, .int 10]) (rest := []) (c_X9_isBetween 2 0 10 μ) cal_X9_isBetween lk9_102 (by decide +kernel) rfl (by decide +kernel) rfl rfl (Nat.le_of_ble_eq_true rfl) (by decide) (by decide) (fun _ _ h9 => h9.elim) ?_
  rintro _ _ ⟨rfl, h9⟩; rw [h9]; clear h9
  show pm_V _ _ _ _ 12 _ [.int (lr_b (lr_in 2 0 10))] _
  refine pm_ifb_ne (off := 14) 26 (by decide +kernel) (by decide) (fun (h12 : (lr_in 2 0 10) = true) => ?_) (fun (h9 : (lr_in 2 0 10) = false) => absurd (h9.symm.trans (show lr_in 2 0 10 = true by decide)) (by decide))
  refine pm_bl [(.aload_n 0, 1, 0, 0, 0), (.getfield 10, 3, 9, 0, 0), (.getfield 235, 3, 5, 5, 0), (.iload_n 1, 1, 1, 0, 0), (.iload_n 2, 1, 2, 0, 0)] (pc1 := 35) (lo1 := [some (.ref 0), some (.int (nI h)), some (.int 2)]) (st1 := [.int 2, .int (nI h), .ref 26]) (μ1 := μ) (vc := True) rfl (by decide +kernel) rfl trivial ?_
  refine pm_callV2 mi_X4_numberOf (ix := 287) (b := 26) (ci := 4) (kc2 := 1) (ks2 := 6) (As := [.int (nI h), .int 2]) (rest := []) (c_X4_numberOf_2 (h := h) μ hR hG hh) cal_X4_numberOf lk9_287 (by decide +kernel) rfl (by decide +kernel) rfl rfl rfl rfl (Nat.le_of_ble_eq_true rfl) (by decide) (by decide) (fun _ _ h9 => h9.elim) ?_
  rintro _ _ ⟨rfl, h9⟩; rw [h9]; clear h9
  show pm_V _ _ _ _ 38 _ [.int (g (292 + 11 * h))] _
  exact pm_iret (ty := .int) rfl rfl (by decide) (by decide) (by decide +kernel) (⟨rfl, rfl⟩)
set_option maxHeartbeats 4000000 in
set_option maxRecDepth 100000 in
theorem c_X9_letter_3 {g : Nat → Int32} {h : Nat} (μ : pm_Mm) (hR : lr_Rel μ.1 1 g) (hG : lr_G g) (hh : h < lr_n g 289) : pm_CT mi_X9_letter [.ref 0, .int (nI h), .int 3] μ (fun v μ2 => v = some (.int (g (293 + 11 * h))) ∧ μ2 = μ) pm_NX := by
  refine pm_CT_of (lo := [some (.ref 0), some (.int (nI h)), some (.int 3)]) (by decide +kernel) rfl rfl (by intro v hv; simp at hv; rcases hv with rfl | rfl | rfl <;> rfl) (Nat.le_of_ble_eq_true rfl) rfl ?_
  have hm1 := lr_mh hG; have hm2 := lr_mw hG; have hm3 := lr_mp hG; have hm4 := lr_mr hG; have hm5 := lr_ma hG; have hm6 := lr_ml hG
  refine pm_bl [(.aload_n 0, 1, 0, 0, 0), (.iload_n 1, 1, 1, 0, 0)] (pc1 := 2) (lo1 := [some (.ref 0), some (.int (nI h)), some (.int 3)]) (st1 := [.int (nI h), .ref 0]) (μ1 := μ) (vc := True) rfl (by decide +kernel) rfl trivial ?_
  refine pm_callV2 mi_X9_requireLetter (ix := 282) (b := 0) (ci := 9) (kc2 := 1) (ks2 := 6) (As := [.int (nI h)]) (rest := []) (c_X9_requireLetter (nI h) μ (by first | exact hR | exact hR1) hG (lr_be_1 hh (by omega))) cal_X9_requireLetter lk9_282 (by decide +kernel) rfl (by decide +kernel) rfl rfl rfl rfl (Nat.le_of_ble_eq_true rfl) (by decide) (by decide) (fun _ _ h9 => h9.elim) ?_
  rintro _ _ ⟨rfl, h9⟩; rw [h9]; clear h9
  show pm_V _ _ _ _ 5 _ [] _
  refine pm_bl [(.iload_n 2, 1, 2, 0, 0), (.iconst 0, 1, 0, 0, 0), (.bipush 10, 2, 0, 0, 10)] (pc1 := 9) (lo1 := [some (.ref 0), some (.int (nI h)), some (.int 3)]) (st1 := [.int 10, .int 0, .int 3]) (μ1 := μ) (vc := True) rfl (by decide +kernel) rfl trivial ?_
  refine pm_callS2 mi_X9_isBetween (ix := 102) (kc2 := 1) (ks2 := 6) (As := [.int 3, .int 0, .int 10]) (rest := []) (c_X9_isBetween 3 0 10 μ) cal_X9_isBetween lk9_102 (by decide +kernel) rfl (by decide +kernel) rfl rfl (Nat.le_of_ble_eq_true rfl) (by decide) (by decide) (fun _ _ h9 => h9.elim) ?_
  rintro _ _ ⟨rfl, h9⟩; rw [h9]; clear h9
  show pm_V _ _ _ _ 12 _ [.int (lr_b (lr_in 3 0 10))] _
  refine pm_ifb_ne (off := 14) 26 (by decide +kernel) (by decide) (fun (h12 : (lr_in 3 0 10) = true) => ?_) (fun (h9 : (lr_in 3 0 10) = false) => absurd (h9.symm.trans (show lr_in 3 0 10 = true by decide)) (by decide))
  refine pm_bl [(.aload_n 0, 1, 0, 0, 0), (.getfield 10, 3, 9, 0, 0), (.getfield 235, 3, 5, 5, 0), (.iload_n 1, 1, 1, 0, 0), (.iload_n 2, 1, 2, 0, 0)] (pc1 := 35) (lo1 := [some (.ref 0), some (.int (nI h)), some (.int 3)]) (st1 := [.int 3, .int (nI h), .ref 26]) (μ1 := μ) (vc := True) rfl (by decide +kernel) rfl trivial ?_
  refine pm_callV2 mi_X4_numberOf (ix := 287) (b := 26) (ci := 4) (kc2 := 1) (ks2 := 6) (As := [.int (nI h), .int 3]) (rest := []) (c_X4_numberOf_3 (h := h) μ hR hG hh) cal_X4_numberOf lk9_287 (by decide +kernel) rfl (by decide +kernel) rfl rfl rfl rfl (Nat.le_of_ble_eq_true rfl) (by decide) (by decide) (fun _ _ h9 => h9.elim) ?_
  rintro _ _ ⟨rfl, h9⟩; rw [h9]; clear h9
  show pm_V _ _ _ _ 38 _ [.int (g (293 + 11 * h))] _
  exact pm_iret (ty := .int) rfl rfl (by decide) (by decide) (by decide +kernel) (⟨rfl, rfl⟩)
set_option maxHeartbeats 4000000 in
set_option maxRecDepth 100000 in
theorem c_X9_letter_4 {g : Nat → Int32} {h : Nat} (μ : pm_Mm) (hR : lr_Rel μ.1 1 g) (hG : lr_G g) (hh : h < lr_n g 289) : pm_CT mi_X9_letter [.ref 0, .int (nI h), .int 4] μ (fun v μ2 => v = some (.int (g (294 + 11 * h))) ∧ μ2 = μ) pm_NX := by
  refine pm_CT_of (lo := [some (.ref 0), some (.int (nI h)), some (.int 4)]) (by decide +kernel) rfl rfl (by intro v hv; simp at hv; rcases hv with rfl | rfl | rfl <;> rfl) (Nat.le_of_ble_eq_true rfl) rfl ?_
  have hm1 := lr_mh hG; have hm2 := lr_mw hG; have hm3 := lr_mp hG; have hm4 := lr_mr hG; have hm5 := lr_ma hG; have hm6 := lr_ml hG
  refine pm_bl [(.aload_n 0, 1, 0, 0, 0), (.iload_n 1, 1, 1, 0, 0)] (pc1 := 2) (lo1 := [some (.ref 0), some (.int (nI h)), some (.int 4)]) (st1 := [.int (nI h), .ref 0]) (μ1 := μ) (vc := True) rfl (by decide +kernel) rfl trivial ?_
  refine pm_callV2 mi_X9_requireLetter (ix := 282) (b := 0) (ci := 9) (kc2 := 1) (ks2 := 6) (As := [.int (nI h)]) (rest := []) (c_X9_requireLetter (nI h) μ (by first | exact hR | exact hR1) hG (lr_be_1 hh (by omega))) cal_X9_requireLetter lk9_282 (by decide +kernel) rfl (by decide +kernel) rfl rfl rfl rfl (Nat.le_of_ble_eq_true rfl) (by decide) (by decide) (fun _ _ h9 => h9.elim) ?_
  rintro _ _ ⟨rfl, h9⟩; rw [h9]; clear h9
  show pm_V _ _ _ _ 5 _ [] _
  refine pm_bl [(.iload_n 2, 1, 2, 0, 0), (.iconst 0, 1, 0, 0, 0), (.bipush 10, 2, 0, 0, 10)] (pc1 := 9) (lo1 := [some (.ref 0), some (.int (nI h)), some (.int 4)]) (st1 := [.int 10, .int 0, .int 4]) (μ1 := μ) (vc := True) rfl (by decide +kernel) rfl trivial ?_
  refine pm_callS2 mi_X9_isBetween (ix := 102) (kc2 := 1) (ks2 := 6) (As := [.int 4, .int 0, .int 10]) (rest := []) (c_X9_isBetween 4 0 10 μ) cal_X9_isBetween lk9_102 (by decide +kernel) rfl (by decide +kernel) rfl rfl (Nat.le_of_ble_eq_true rfl) (by decide) (by decide) (fun _ _ h9 => h9.elim) ?_
  rintro _ _ ⟨rfl, h9⟩; rw [h9]; clear h9
  show pm_V _ _ _ _ 12 _ [.int (lr_b (lr_in 4 0 10))] _
  refine pm_ifb_ne (off := 14) 26 (by decide +kernel) (by decide) (fun (h12 : (lr_in 4 0 10) = true) => ?_) (fun (h9 : (lr_in 4 0 10) = false) => absurd (h9.symm.trans (show lr_in 4 0 10 = true by decide)) (by decide))
  refine pm_bl [(.aload_n 0, 1, 0, 0, 0), (.getfield 10, 3, 9, 0, 0), (.getfield 235, 3, 5, 5, 0), (.iload_n 1, 1, 1, 0, 0), (.iload_n 2, 1, 2, 0, 0)] (pc1 := 35) (lo1 := [some (.ref 0), some (.int (nI h)), some (.int 4)]) (st1 := [.int 4, .int (nI h), .ref 26]) (μ1 := μ) (vc := True) rfl (by decide +kernel) rfl trivial ?_
  refine pm_callV2 mi_X4_numberOf (ix := 287) (b := 26) (ci := 4) (kc2 := 1) (ks2 := 6) (As := [.int (nI h), .int 4]) (rest := []) (c_X4_numberOf_4 (h := h) μ hR hG hh) cal_X4_numberOf lk9_287 (by decide +kernel) rfl (by decide +kernel) rfl rfl rfl rfl (Nat.le_of_ble_eq_true rfl) (by decide) (by decide) (fun _ _ h9 => h9.elim) ?_
  rintro _ _ ⟨rfl, h9⟩; rw [h9]; clear h9
  show pm_V _ _ _ _ 38 _ [.int (g (294 + 11 * h))] _
  exact pm_iret (ty := .int) rfl rfl (by decide) (by decide) (by decide +kernel) (⟨rfl, rfl⟩)
set_option maxHeartbeats 4000000 in
set_option maxRecDepth 100000 in
theorem c_X9_letter_5 {g : Nat → Int32} {h : Nat} (μ : pm_Mm) (hR : lr_Rel μ.1 1 g) (hG : lr_G g) (hh : h < lr_n g 289) : pm_CT mi_X9_letter [.ref 0, .int (nI h), .int 5] μ (fun v μ2 => v = some (.int (g (295 + 11 * h))) ∧ μ2 = μ) pm_NX := by
  refine pm_CT_of (lo := [some (.ref 0), some (.int (nI h)), some (.int 5)]) (by decide +kernel) rfl rfl (by intro v hv; simp at hv; rcases hv with rfl | rfl | rfl <;> rfl) (Nat.le_of_ble_eq_true rfl) rfl ?_
  have hm1 := lr_mh hG; have hm2 := lr_mw hG; have hm3 := lr_mp hG; have hm4 := lr_mr hG; have hm5 := lr_ma hG; have hm6 := lr_ml hG
  refine pm_bl [(.aload_n 0, 1, 0, 0, 0), (.iload_n 1, 1, 1, 0, 0)] (pc1 := 2) (lo1 := [some (.ref 0), some (.int (nI h)), some (.int 5)]) (st1 := [.int (nI h), .ref 0]) (μ1 := μ) (vc := True) rfl (by decide +kernel) rfl trivial ?_
  refine pm_callV2 mi_X9_requireLetter (ix := 282) (b := 0) (ci := 9) (kc2 := 1) (ks2 := 6) (As := [.int (nI h)]) (rest := []) (c_X9_requireLetter (nI h) μ (by first | exact hR | exact hR1) hG (lr_be_1 hh (by omega))) cal_X9_requireLetter lk9_282 (by decide +kernel) rfl (by decide +kernel) rfl rfl rfl rfl (Nat.le_of_ble_eq_true rfl) (by decide) (by decide) (fun _ _ h9 => h9.elim) ?_
  rintro _ _ ⟨rfl, h9⟩; rw [h9]; clear h9
  show pm_V _ _ _ _ 5 _ [] _
  refine pm_bl [(.iload_n 2, 1, 2, 0, 0), (.iconst 0, 1, 0, 0, 0), (.bipush 10, 2, 0, 0, 10)] (pc1 := 9) (lo1 := [some (.ref 0), some (.int (nI h)), some (.int 5)]) (st1 := [.int 10, .int 0, .int 5]) (μ1 := μ) (vc := True) rfl (by decide +kernel) rfl trivial ?_
  refine pm_callS2 mi_X9_isBetween (ix := 102) (kc2 := 1) (ks2 := 6) (As := [.int 5, .int 0, .int 10]) (rest := []) (c_X9_isBetween 5 0 10 μ) cal_X9_isBetween lk9_102 (by decide +kernel) rfl (by decide +kernel) rfl rfl (Nat.le_of_ble_eq_true rfl) (by decide) (by decide) (fun _ _ h9 => h9.elim) ?_
  rintro _ _ ⟨rfl, h9⟩; rw [h9]; clear h9
  show pm_V _ _ _ _ 12 _ [.int (lr_b (lr_in 5 0 10))] _
  refine pm_ifb_ne (off := 14) 26 (by decide +kernel) (by decide) (fun (h12 : (lr_in 5 0 10) = true) => ?_) (fun (h9 : (lr_in 5 0 10) = false) => absurd (h9.symm.trans (show lr_in 5 0 10 = true by decide)) (by decide))
  refine pm_bl [(.aload_n 0, 1, 0, 0, 0), (.getfield 10, 3, 9, 0, 0), (.getfield 235, 3, 5, 5, 0), (.iload_n 1, 1, 1, 0, 0), (.iload_n 2, 1, 2, 0, 0)] (pc1 := 35) (lo1 := [some (.ref 0), some (.int (nI h)), some (.int 5)]) (st1 := [.int 5, .int (nI h), .ref 26]) (μ1 := μ) (vc := True) rfl (by decide +kernel) rfl trivial ?_
  refine pm_callV2 mi_X4_numberOf (ix := 287) (b := 26) (ci := 4) (kc2 := 1) (ks2 := 6) (As := [.int (nI h), .int 5]) (rest := []) (c_X4_numberOf_5 (h := h) μ hR hG hh) cal_X4_numberOf lk9_287 (by decide +kernel) rfl (by decide +kernel) rfl rfl rfl rfl (Nat.le_of_ble_eq_true rfl) (by decide) (by decide) (fun _ _ h9 => h9.elim) ?_
  rintro _ _ ⟨rfl, h9⟩; rw [h9]; clear h9
  show pm_V _ _ _ _ 38 _ [.int (g (295 + 11 * h))] _
  exact pm_iret (ty := .int) rfl rfl (by decide) (by decide) (by decide +kernel) (⟨rfl, rfl⟩)
set_option maxHeartbeats 4000000 in
set_option maxRecDepth 100000 in
theorem c_X9_letter_6 {g : Nat → Int32} {h : Nat} (μ : pm_Mm) (hR : lr_Rel μ.1 1 g) (hG : lr_G g) (hh : h < lr_n g 289) : pm_CT mi_X9_letter [.ref 0, .int (nI h), .int 6] μ (fun v μ2 => v = some (.int (g (296 + 11 * h))) ∧ μ2 = μ) pm_NX := by
  refine pm_CT_of (lo := [some (.ref 0), some (.int (nI h)), some (.int 6)]) (by decide +kernel) rfl rfl (by intro v hv; simp at hv; rcases hv with rfl | rfl | rfl <;> rfl) (Nat.le_of_ble_eq_true rfl) rfl ?_
  have hm1 := lr_mh hG; have hm2 := lr_mw hG; have hm3 := lr_mp hG; have hm4 := lr_mr hG; have hm5 := lr_ma hG; have hm6 := lr_ml hG
  refine pm_bl [(.aload_n 0, 1, 0, 0, 0), (.iload_n 1, 1, 1, 0, 0)] (pc1 := 2) (lo1 := [some (.ref 0), some (.int (nI h)), some (.int 6)]) (st1 := [.int (nI h), .ref 0]) (μ1 := μ) (vc := True) rfl (by decide +kernel) rfl trivial ?_
  refine pm_callV2 mi_X9_requireLetter (ix := 282) (b := 0) (ci := 9) (kc2 := 1) (ks2 := 6) (As := [.int (nI h)]) (rest := []) (c_X9_requireLetter (nI h) μ (by first | exact hR | exact hR1) hG (lr_be_1 hh (by omega))) cal_X9_requireLetter lk9_282 (by decide +kernel) rfl (by decide +kernel) rfl rfl rfl rfl (Nat.le_of_ble_eq_true rfl) (by decide) (by decide) (fun _ _ h9 => h9.elim) ?_
  rintro _ _ ⟨rfl, h9⟩; rw [h9]; clear h9
  show pm_V _ _ _ _ 5 _ [] _
  refine pm_bl [(.iload_n 2, 1, 2, 0, 0), (.iconst 0, 1, 0, 0, 0), (.bipush 10, 2, 0, 0, 10)] (pc1 := 9) (lo1 := [some (.ref 0), some (.int (nI h)), some (.int 6)]) (st1 := [.int 10, .int 0, .int 6]) (μ1 := μ) (vc := True) rfl (by decide +kernel) rfl trivial ?_
  refine pm_callS2 mi_X9_isBetween (ix := 102) (kc2 := 1) (ks2 := 6) (As := [.int 6, .int 0, .int 10]) (rest := []) (c_X9_isBetween 6 0 10 μ) cal_X9_isBetween lk9_102 (by decide +kernel) rfl (by decide +kernel) rfl rfl (Nat.le_of_ble_eq_true rfl) (by decide) (by decide) (fun _ _ h9 => h9.elim) ?_
  rintro _ _ ⟨rfl, h9⟩; rw [h9]; clear h9
  show pm_V _ _ _ _ 12 _ [.int (lr_b (lr_in 6 0 10))] _
  refine pm_ifb_ne (off := 14) 26 (by decide +kernel) (by decide) (fun (h12 : (lr_in 6 0 10) = true) => ?_) (fun (h9 : (lr_in 6 0 10) = false) => absurd (h9.symm.trans (show lr_in 6 0 10 = true by decide)) (by decide))
  refine pm_bl [(.aload_n 0, 1, 0, 0, 0), (.getfield 10, 3, 9, 0, 0), (.getfield 235, 3, 5, 5, 0), (.iload_n 1, 1, 1, 0, 0), (.iload_n 2, 1, 2, 0, 0)] (pc1 := 35) (lo1 := [some (.ref 0), some (.int (nI h)), some (.int 6)]) (st1 := [.int 6, .int (nI h), .ref 26]) (μ1 := μ) (vc := True) rfl (by decide +kernel) rfl trivial ?_
  refine pm_callV2 mi_X4_numberOf (ix := 287) (b := 26) (ci := 4) (kc2 := 1) (ks2 := 6) (As := [.int (nI h), .int 6]) (rest := []) (c_X4_numberOf_6 (h := h) μ hR hG hh) cal_X4_numberOf lk9_287 (by decide +kernel) rfl (by decide +kernel) rfl rfl rfl rfl (Nat.le_of_ble_eq_true rfl) (by decide) (by decide) (fun _ _ h9 => h9.elim) ?_
  rintro _ _ ⟨rfl, h9⟩; rw [h9]; clear h9
  show pm_V _ _ _ _ 38 _ [.int (g (296 + 11 * h))] _
  exact pm_iret (ty := .int) rfl rfl (by decide) (by decide) (by decide +kernel) (⟨rfl, rfl⟩)
set_option maxHeartbeats 4000000 in
set_option maxRecDepth 100000 in
theorem c_X9_letter_7 {g : Nat → Int32} {h : Nat} (μ : pm_Mm) (hR : lr_Rel μ.1 1 g) (hG : lr_G g) (hh : h < lr_n g 289) : pm_CT mi_X9_letter [.ref 0, .int (nI h), .int 7] μ (fun v μ2 => v = some (.int (g (297 + 11 * h))) ∧ μ2 = μ) pm_NX := by
  refine pm_CT_of (lo := [some (.ref 0), some (.int (nI h)), some (.int 7)]) (by decide +kernel) rfl rfl (by intro v hv; simp at hv; rcases hv with rfl | rfl | rfl <;> rfl) (Nat.le_of_ble_eq_true rfl) rfl ?_
  have hm1 := lr_mh hG; have hm2 := lr_mw hG; have hm3 := lr_mp hG; have hm4 := lr_mr hG; have hm5 := lr_ma hG; have hm6 := lr_ml hG
  refine pm_bl [(.aload_n 0, 1, 0, 0, 0), (.iload_n 1, 1, 1, 0, 0)] (pc1 := 2) (lo1 := [some (.ref 0), some (.int (nI h)), some (.int 7)]) (st1 := [.int (nI h), .ref 0]) (μ1 := μ) (vc := True) rfl (by decide +kernel) rfl trivial ?_
  refine pm_callV2 mi_X9_requireLetter (ix := 282) (b := 0) (ci := 9) (kc2 := 1) (ks2 := 6) (As := [.int (nI h)]) (rest := []) (c_X9_requireLetter (nI h) μ (by first | exact hR | exact hR1) hG (lr_be_1 hh (by omega))) cal_X9_requireLetter lk9_282 (by decide +kernel) rfl (by decide +kernel) rfl rfl rfl rfl (Nat.le_of_ble_eq_true rfl) (by decide) (by decide) (fun _ _ h9 => h9.elim) ?_
  rintro _ _ ⟨rfl, h9⟩; rw [h9]; clear h9
  show pm_V _ _ _ _ 5 _ [] _
  refine pm_bl [(.iload_n 2, 1, 2, 0, 0), (.iconst 0, 1, 0, 0, 0), (.bipush 10, 2, 0, 0, 10)] (pc1 := 9) (lo1 := [some (.ref 0), some (.int (nI h)), some (.int 7)]) (st1 := [.int 10, .int 0, .int 7]) (μ1 := μ) (vc := True) rfl (by decide +kernel) rfl trivial ?_
  refine pm_callS2 mi_X9_isBetween (ix := 102) (kc2 := 1) (ks2 := 6) (As := [.int 7, .int 0, .int 10]) (rest := []) (c_X9_isBetween 7 0 10 μ) cal_X9_isBetween lk9_102 (by decide +kernel) rfl (by decide +kernel) rfl rfl (Nat.le_of_ble_eq_true rfl) (by decide) (by decide) (fun _ _ h9 => h9.elim) ?_
  rintro _ _ ⟨rfl, h9⟩; rw [h9]; clear h9
  show pm_V _ _ _ _ 12 _ [.int (lr_b (lr_in 7 0 10))] _
  refine pm_ifb_ne (off := 14) 26 (by decide +kernel) (by decide) (fun (h12 : (lr_in 7 0 10) = true) => ?_) (fun (h9 : (lr_in 7 0 10) = false) => absurd (h9.symm.trans (show lr_in 7 0 10 = true by decide)) (by decide))
  refine pm_bl [(.aload_n 0, 1, 0, 0, 0), (.getfield 10, 3, 9, 0, 0), (.getfield 235, 3, 5, 5, 0), (.iload_n 1, 1, 1, 0, 0), (.iload_n 2, 1, 2, 0, 0)] (pc1 := 35) (lo1 := [some (.ref 0), some (.int (nI h)), some (.int 7)]) (st1 := [.int 7, .int (nI h), .ref 26]) (μ1 := μ) (vc := True) rfl (by decide +kernel) rfl trivial ?_
  refine pm_callV2 mi_X4_numberOf (ix := 287) (b := 26) (ci := 4) (kc2 := 1) (ks2 := 6) (As := [.int (nI h), .int 7]) (rest := []) (c_X4_numberOf_7 (h := h) μ hR hG hh) cal_X4_numberOf lk9_287 (by decide +kernel) rfl (by decide +kernel) rfl rfl rfl rfl (Nat.le_of_ble_eq_true rfl) (by decide) (by decide) (fun _ _ h9 => h9.elim) ?_
  rintro _ _ ⟨rfl, h9⟩; rw [h9]; clear h9
  show pm_V _ _ _ _ 38 _ [.int (g (297 + 11 * h))] _
  exact pm_iret (ty := .int) rfl rfl (by decide) (by decide) (by decide +kernel) (⟨rfl, rfl⟩)
set_option maxHeartbeats 4000000 in
set_option maxRecDepth 100000 in
theorem c_X9_letter_8 {g : Nat → Int32} {h : Nat} (μ : pm_Mm) (hR : lr_Rel μ.1 1 g) (hG : lr_G g) (hh : h < lr_n g 289) : pm_CT mi_X9_letter [.ref 0, .int (nI h), .int 8] μ (fun v μ2 => v = some (.int (g (298 + 11 * h))) ∧ μ2 = μ) pm_NX := by
  refine pm_CT_of (lo := [some (.ref 0), some (.int (nI h)), some (.int 8)]) (by decide +kernel) rfl rfl (by intro v hv; simp at hv; rcases hv with rfl | rfl | rfl <;> rfl) (Nat.le_of_ble_eq_true rfl) rfl ?_
  have hm1 := lr_mh hG; have hm2 := lr_mw hG; have hm3 := lr_mp hG; have hm4 := lr_mr hG; have hm5 := lr_ma hG; have hm6 := lr_ml hG
  refine pm_bl [(.aload_n 0, 1, 0, 0, 0), (.iload_n 1, 1, 1, 0, 0)] (pc1 := 2) (lo1 := [some (.ref 0), some (.int (nI h)), some (.int 8)]) (st1 := [.int (nI h), .ref 0]) (μ1 := μ) (vc := True) rfl (by decide +kernel) rfl trivial ?_
  refine pm_callV2 mi_X9_requireLetter (ix := 282) (b := 0) (ci := 9) (kc2 := 1) (ks2 := 6) (As := [.int (nI h)]) (rest := []) (c_X9_requireLetter (nI h) μ (by first | exact hR | exact hR1) hG (lr_be_1 hh (by omega))) cal_X9_requireLetter lk9_282 (by decide +kernel) rfl (by decide +kernel) rfl rfl rfl rfl (Nat.le_of_ble_eq_true rfl) (by decide) (by decide) (fun _ _ h9 => h9.elim) ?_
  rintro _ _ ⟨rfl, h9⟩; rw [h9]; clear h9
  show pm_V _ _ _ _ 5 _ [] _
  refine pm_bl [(.iload_n 2, 1, 2, 0, 0), (.iconst 0, 1, 0, 0, 0), (.bipush 10, 2, 0, 0, 10)] (pc1 := 9) (lo1 := [some (.ref 0), some (.int (nI h)), some (.int 8)]) (st1 := [.int 10, .int 0, .int 8]) (μ1 := μ) (vc := True) rfl (by decide +kernel) rfl trivial ?_
  refine pm_callS2 mi_X9_isBetween (ix := 102) (kc2 := 1) (ks2 := 6) (As := [.int 8, .int 0, .int 10]) (rest := []) (c_X9_isBetween 8 0 10 μ) cal_X9_isBetween lk9_102 (by decide +kernel) rfl (by decide +kernel) rfl rfl (Nat.le_of_ble_eq_true rfl) (by decide) (by decide) (fun _ _ h9 => h9.elim) ?_
  rintro _ _ ⟨rfl, h9⟩; rw [h9]; clear h9
  show pm_V _ _ _ _ 12 _ [.int (lr_b (lr_in 8 0 10))] _
  refine pm_ifb_ne (off := 14) 26 (by decide +kernel) (by decide) (fun (h12 : (lr_in 8 0 10) = true) => ?_) (fun (h9 : (lr_in 8 0 10) = false) => absurd (h9.symm.trans (show lr_in 8 0 10 = true by decide)) (by decide))
  refine pm_bl [(.aload_n 0, 1, 0, 0, 0), (.getfield 10, 3, 9, 0, 0), (.getfield 235, 3, 5, 5, 0), (.iload_n 1, 1, 1, 0, 0), (.iload_n 2, 1, 2, 0, 0)] (pc1 := 35) (lo1 := [some (.ref 0), some (.int (nI h)), some (.int 8)]) (st1 := [.int 8, .int (nI h), .ref 26]) (μ1 := μ) (vc := True) rfl (by decide +kernel) rfl trivial ?_
  refine pm_callV2 mi_X4_numberOf (ix := 287) (b := 26) (ci := 4) (kc2 := 1) (ks2 := 6) (As := [.int (nI h), .int 8]) (rest := []) (c_X4_numberOf_8 (h := h) μ hR hG hh) cal_X4_numberOf lk9_287 (by decide +kernel) rfl (by decide +kernel) rfl rfl rfl rfl (Nat.le_of_ble_eq_true rfl) (by decide) (by decide) (fun _ _ h9 => h9.elim) ?_
  rintro _ _ ⟨rfl, h9⟩; rw [h9]; clear h9
  show pm_V _ _ _ _ 38 _ [.int (g (298 + 11 * h))] _
  exact pm_iret (ty := .int) rfl rfl (by decide) (by decide) (by decide +kernel) (⟨rfl, rfl⟩)
set_option maxHeartbeats 4000000 in
set_option maxRecDepth 100000 in
theorem c_X9_letter_9 {g : Nat → Int32} {h : Nat} (μ : pm_Mm) (hR : lr_Rel μ.1 1 g) (hG : lr_G g) (hh : h < lr_n g 289) : pm_CT mi_X9_letter [.ref 0, .int (nI h), .int 9] μ (fun v μ2 => v = some (.int (g (299 + 11 * h))) ∧ μ2 = μ) pm_NX := by
  refine pm_CT_of (lo := [some (.ref 0), some (.int (nI h)), some (.int 9)]) (by decide +kernel) rfl rfl (by intro v hv; simp at hv; rcases hv with rfl | rfl | rfl <;> rfl) (Nat.le_of_ble_eq_true rfl) rfl ?_
  have hm1 := lr_mh hG; have hm2 := lr_mw hG; have hm3 := lr_mp hG; have hm4 := lr_mr hG; have hm5 := lr_ma hG; have hm6 := lr_ml hG
  refine pm_bl [(.aload_n 0, 1, 0, 0, 0), (.iload_n 1, 1, 1, 0, 0)] (pc1 := 2) (lo1 := [some (.ref 0), some (.int (nI h)), some (.int 9)]) (st1 := [.int (nI h), .ref 0]) (μ1 := μ) (vc := True) rfl (by decide +kernel) rfl trivial ?_
  refine pm_callV2 mi_X9_requireLetter (ix := 282) (b := 0) (ci := 9) (kc2 := 1) (ks2 := 6) (As := [.int (nI h)]) (rest := []) (c_X9_requireLetter (nI h) μ (by first | exact hR | exact hR1) hG (lr_be_1 hh (by omega))) cal_X9_requireLetter lk9_282 (by decide +kernel) rfl (by decide +kernel) rfl rfl rfl rfl (Nat.le_of_ble_eq_true rfl) (by decide) (by decide) (fun _ _ h9 => h9.elim) ?_
  rintro _ _ ⟨rfl, h9⟩; rw [h9]; clear h9
  show pm_V _ _ _ _ 5 _ [] _
  refine pm_bl [(.iload_n 2, 1, 2, 0, 0), (.iconst 0, 1, 0, 0, 0), (.bipush 10, 2, 0, 0, 10)] (pc1 := 9) (lo1 := [some (.ref 0), some (.int (nI h)), some (.int 9)]) (st1 := [.int 10, .int 0, .int 9]) (μ1 := μ) (vc := True) rfl (by decide +kernel) rfl trivial ?_
  refine pm_callS2 mi_X9_isBetween (ix := 102) (kc2 := 1) (ks2 := 6) (As := [.int 9, .int 0, .int 10]) (rest := []) (c_X9_isBetween 9 0 10 μ) cal_X9_isBetween lk9_102 (by decide +kernel) rfl (by decide +kernel) rfl rfl (Nat.le_of_ble_eq_true rfl) (by decide) (by decide) (fun _ _ h9 => h9.elim) ?_
  rintro _ _ ⟨rfl, h9⟩; rw [h9]; clear h9
  show pm_V _ _ _ _ 12 _ [.int (lr_b (lr_in 9 0 10))] _
  refine pm_ifb_ne (off := 14) 26 (by decide +kernel) (by decide) (fun (h12 : (lr_in 9 0 10) = true) => ?_) (fun (h9 : (lr_in 9 0 10) = false) => absurd (h9.symm.trans (show lr_in 9 0 10 = true by decide)) (by decide))
  refine pm_bl [(.aload_n 0, 1, 0, 0, 0), (.getfield 10, 3, 9, 0, 0), (.getfield 235, 3, 5, 5, 0), (.iload_n 1, 1, 1, 0, 0), (.iload_n 2, 1, 2, 0, 0)] (pc1 := 35) (lo1 := [some (.ref 0), some (.int (nI h)), some (.int 9)]) (st1 := [.int 9, .int (nI h), .ref 26]) (μ1 := μ) (vc := True) rfl (by decide +kernel) rfl trivial ?_
  refine pm_callV2 mi_X4_numberOf (ix := 287) (b := 26) (ci := 4) (kc2 := 1) (ks2 := 6) (As := [.int (nI h), .int 9]) (rest := []) (c_X4_numberOf_9 (h := h) μ hR hG hh) cal_X4_numberOf lk9_287 (by decide +kernel) rfl (by decide +kernel) rfl rfl rfl rfl (Nat.le_of_ble_eq_true rfl) (by decide) (by decide) (fun _ _ h9 => h9.elim) ?_
  rintro _ _ ⟨rfl, h9⟩; rw [h9]; clear h9
  show pm_V _ _ _ _ 38 _ [.int (g (299 + 11 * h))] _
  exact pm_iret (ty := .int) rfl rfl (by decide) (by decide) (by decide +kernel) (⟨rfl, rfl⟩)
set_option maxHeartbeats 4000000 in
set_option maxRecDepth 100000 in
theorem c_X9_letter_10 {g : Nat → Int32} {h : Nat} (μ : pm_Mm) (hR : lr_Rel μ.1 1 g) (hG : lr_G g) (hh : h < lr_n g 289) : pm_CT mi_X9_letter [.ref 0, .int (nI h), .int 10] μ (fun v μ2 => v = some (.int (g (300 + 11 * h))) ∧ μ2 = μ) pm_NX := by
  refine pm_CT_of (lo := [some (.ref 0), some (.int (nI h)), some (.int 10)]) (by decide +kernel) rfl rfl (by intro v hv; simp at hv; rcases hv with rfl | rfl | rfl <;> rfl) (Nat.le_of_ble_eq_true rfl) rfl ?_
  have hm1 := lr_mh hG; have hm2 := lr_mw hG; have hm3 := lr_mp hG; have hm4 := lr_mr hG; have hm5 := lr_ma hG; have hm6 := lr_ml hG
  refine pm_bl [(.aload_n 0, 1, 0, 0, 0), (.iload_n 1, 1, 1, 0, 0)] (pc1 := 2) (lo1 := [some (.ref 0), some (.int (nI h)), some (.int 10)]) (st1 := [.int (nI h), .ref 0]) (μ1 := μ) (vc := True) rfl (by decide +kernel) rfl trivial ?_
  refine pm_callV2 mi_X9_requireLetter (ix := 282) (b := 0) (ci := 9) (kc2 := 1) (ks2 := 6) (As := [.int (nI h)]) (rest := []) (c_X9_requireLetter (nI h) μ (by first | exact hR | exact hR1) hG (lr_be_1 hh (by omega))) cal_X9_requireLetter lk9_282 (by decide +kernel) rfl (by decide +kernel) rfl rfl rfl rfl (Nat.le_of_ble_eq_true rfl) (by decide) (by decide) (fun _ _ h9 => h9.elim) ?_
  rintro _ _ ⟨rfl, h9⟩; rw [h9]; clear h9
  show pm_V _ _ _ _ 5 _ [] _
  refine pm_bl [(.iload_n 2, 1, 2, 0, 0), (.iconst 0, 1, 0, 0, 0), (.bipush 10, 2, 0, 0, 10)] (pc1 := 9) (lo1 := [some (.ref 0), some (.int (nI h)), some (.int 10)]) (st1 := [.int 10, .int 0, .int 10]) (μ1 := μ) (vc := True) rfl (by decide +kernel) rfl trivial ?_
  refine pm_callS2 mi_X9_isBetween (ix := 102) (kc2 := 1) (ks2 := 6) (As := [.int 10, .int 0, .int 10]) (rest := []) (c_X9_isBetween 10 0 10 μ) cal_X9_isBetween lk9_102 (by decide +kernel) rfl (by decide +kernel) rfl rfl (Nat.le_of_ble_eq_true rfl) (by decide) (by decide) (fun _ _ h9 => h9.elim) ?_
  rintro _ _ ⟨rfl, h9⟩; rw [h9]; clear h9
  show pm_V _ _ _ _ 12 _ [.int (lr_b (lr_in 10 0 10))] _
  refine pm_ifb_ne (off := 14) 26 (by decide +kernel) (by decide) (fun (h12 : (lr_in 10 0 10) = true) => ?_) (fun (h9 : (lr_in 10 0 10) = false) => absurd (h9.symm.trans (show lr_in 10 0 10 = true by decide)) (by decide))
  refine pm_bl [(.aload_n 0, 1, 0, 0, 0), (.getfield 10, 3, 9, 0, 0), (.getfield 235, 3, 5, 5, 0), (.iload_n 1, 1, 1, 0, 0), (.iload_n 2, 1, 2, 0, 0)] (pc1 := 35) (lo1 := [some (.ref 0), some (.int (nI h)), some (.int 10)]) (st1 := [.int 10, .int (nI h), .ref 26]) (μ1 := μ) (vc := True) rfl (by decide +kernel) rfl trivial ?_
  refine pm_callV2 mi_X4_numberOf (ix := 287) (b := 26) (ci := 4) (kc2 := 1) (ks2 := 6) (As := [.int (nI h), .int 10]) (rest := []) (c_X4_numberOf_10 (h := h) μ hR hG hh) cal_X4_numberOf lk9_287 (by decide +kernel) rfl (by decide +kernel) rfl rfl rfl rfl (Nat.le_of_ble_eq_true rfl) (by decide) (by decide) (fun _ _ h9 => h9.elim) ?_
  rintro _ _ ⟨rfl, h9⟩; rw [h9]; clear h9
  show pm_V _ _ _ _ 38 _ [.int (g (300 + 11 * h))] _
  exact pm_iret (ty := .int) rfl rfl (by decide) (by decide) (by decide +kernel) (⟨rfl, rfl⟩)
