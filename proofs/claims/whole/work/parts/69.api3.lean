/-! the class: letters read, days, accounts, undo, save, restore -/
theorem lr_nozero {v : Int32} (h : v ≠ 0) : ¬ FP.Core.DZero (FP.Core.i2d v) := by
  intro q; exact FP.Core.i2d_ne_zero h ((FP.Core.zero_bits2 _).mp q)
theorem lr_dnan {a b : Int32} (h : b ≠ 0) : vf_n64 (FP.ddiv (FP.i2d a) (FP.i2d b)) := by
  have q : FP.Core.dIsNaN (FP.Core.ddiv (FP.Core.i2d a) (FP.Core.i2d b)) = false := FP.Core.ddiv_out ((FP.Core.notNaN_iff _).mpr (FP.Core.i2d_fin a).ne_nan) (FP.Core.i2d_fin b) (lr_nozero h)
  show (FP.Core.ddiv (FP.Core.i2d a) (FP.Core.i2d b)) &&& 0x7fffffffffffffff ≤ 0x7ff0000000000000
  have q2 : ¬ 9218868437227405312 < (FP.Core.ddiv (FP.Core.i2d a) (FP.Core.i2d b)).toNat % 2 ^ 63 := fun c => by rw [(FP.Core.isNaN_bits _).mpr c] at q; exact absurd q (by decide)
  rw [UInt64.le_iff_toNat_le, UInt64.toNat_and]
  rw [show (0x7fffffffffffffff : UInt64).toNat = 2 ^ 63 - 1 from by decide, Nat.and_two_pow_sub_one_eq_mod, show (0x7ff0000000000000 : UInt64).toNat = 9218868437227405312 from by decide]
  exact Nat.not_lt.mp q2
section PMD
variable {mi : pm_Mi} {T : pm_Tg} {kc ks pc : Nat} {lo : List (Option Value)} {st : List Value} {μ : pm_Mm}
theorem pm_s_ddiv {x y : UInt64} (hd : decode (pm_cc mi) pc = .ok (.ddiv, 1)) (hne : vf_n64 (FP.ddiv x y)) (k : pm_V mi T kc ks (pc + 1) lo (.double (FP.ddiv x y) :: st) μ) : pm_V mi T kc ks pc lo (.double y :: .double x :: st) μ := by
  intro p l e s m args below meth c D tc ad A hO H locs cells slots ls hc hs hP hD hS hlv
  obtain ⟨hx, hb, hml, hown, hts, hr, hlk, htr, hst, hA, htab, hZ⟩ := id hO
  exact lv_ddiv hx hb hd hne (k p l e s m args below meth c D tc ad A hO H locs cells slots ls hc hs hP hD hS hlv)
theorem pm_s_dconst0 (hd : decode (pm_cc mi) pc = .ok (.dconst 0, 1)) (k : pm_V mi T kc ks (pc + 1) lo (.double FP.dconst0 :: st) μ) : pm_V mi T kc ks pc lo st μ := by
  intro p l e s m args below meth c D tc ad A hO H locs cells slots ls hc hs hP hD hS hlv
  obtain ⟨hx, hb, hml, hown, hts, hr, hlk, htr, hst, hA, htab, hZ⟩ := id hO
  exact lv_dconst0 hx hb hd (k p l e s m args below meth c D tc ad A hO H locs cells slots ls hc hs hP hD hS hlv)
end PMD
set_option maxHeartbeats 4000000 in
set_option maxRecDepth 100000 in
theorem c_X4_numberOf_0 {g : Nat → Int32} {h : Nat} (μ : pm_Mm) (hR : lr_Rel μ.1 1 g) (hG : lr_G g) (hh : h < lr_n g 289) : pm_CT mi_X4_numberOf [.ref 26, .int (nI h), .int 0] μ (fun v μ2 => v = some (.int (g (290 + 11 * h))) ∧ μ2 = μ) pm_NX := by
  refine pm_CT_of (lo := [some (.ref 26), some (.int (nI h)), some (.int 0)]) (by decide +kernel) rfl rfl (by intro v hv; simp at hv; rcases hv with rfl | rfl | rfl <;> rfl) (Nat.le_of_ble_eq_true rfl) rfl ?_
  have hm1 := lr_mh hG; have hm2 := lr_mw hG; have hm3 := lr_mp hG; have hm4 := lr_mr hG; have hm5 := lr_ma hG; have hm6 := lr_ml hG
  refine pm_bl [(.iload_n 2, 1, 2, 0, 0)] (pc1 := 1) (lo1 := [some (.ref 26), some (.int (nI h)), some (.int 0)]) (st1 := [.int 0]) (μ1 := μ) (vc := True) rfl (by decide +kernel) rfl trivial ?_
  refine pm_tswI (off := 55) 56 (by decide +kernel) (by decide) (by decide) (by decide) (by decide) ?_
  refine pm_bl [(.aload_n 0, 1, 0, 0, 0), (.getfield 18, 3, 4, 2, 0), (.iload_n 1, 1, 1, 0, 0), (.iaload, 1, 0, 0, 0)] (pc1 := 62) (lo1 := [some (.ref 26), some (.int (nI h)), some (.int 0)]) (st1 := [.int (μ.1 27 (nI h).toNatClampNeg)]) (μ1 := μ) (vc := vp_in (nI h) 30 ∧ True) rfl (by decide +kernel) rfl ⟨(vp_in_nI (by omega) (by omega)), trivial⟩ ?_
  first | rw [nI_clamp (n := h) (by omega), lr_rlpe hR (i := h) hh] | rw [lr_rlpe hR (i := h) hh]
  exact pm_iret (ty := .int) rfl rfl (by decide) (by decide) (by decide +kernel) (⟨rfl, rfl⟩)
set_option maxHeartbeats 4000000 in
set_option maxRecDepth 100000 in
theorem c_X4_numberOf_1 {g : Nat → Int32} {h : Nat} (μ : pm_Mm) (hR : lr_Rel μ.1 1 g) (hG : lr_G g) (hh : h < lr_n g 289) : pm_CT mi_X4_numberOf [.ref 26, .int (nI h), .int 1] μ (fun v μ2 => v = some (.int (g (291 + 11 * h))) ∧ μ2 = μ) pm_NX := by
  refine pm_CT_of (lo := [some (.ref 26), some (.int (nI h)), some (.int 1)]) (by decide +kernel) rfl rfl (by intro v hv; simp at hv; rcases hv with rfl | rfl | rfl <;> rfl) (Nat.le_of_ble_eq_true rfl) rfl ?_
  have hm1 := lr_mh hG; have hm2 := lr_mw hG; have hm3 := lr_mp hG; have hm4 := lr_mr hG; have hm5 := lr_ma hG; have hm6 := lr_ml hG
  refine pm_bl [(.iload_n 2, 1, 2, 0, 0)] (pc1 := 1) (lo1 := [some (.ref 26), some (.int (nI h)), some (.int 1)]) (st1 := [.int 1]) (μ1 := μ) (vc := True) rfl (by decide +kernel) rfl trivial ?_
  refine pm_tswI (off := 62) 63 (by decide +kernel) (by decide) (by decide) (by decide) (by decide) ?_
  refine pm_bl [(.aload_n 0, 1, 0, 0, 0), (.getfield 22, 3, 4, 3, 0), (.iload_n 1, 1, 1, 0, 0), (.iaload, 1, 0, 0, 0)] (pc1 := 69) (lo1 := [some (.ref 26), some (.int (nI h)), some (.int 1)]) (st1 := [.int (μ.1 28 (nI h).toNatClampNeg)]) (μ1 := μ) (vc := vp_in (nI h) 30 ∧ True) rfl (by decide +kernel) rfl ⟨(vp_in_nI (by omega) (by omega)), trivial⟩ ?_
  first | rw [nI_clamp (n := h) (by omega), lr_rlwe hR (i := h) hh] | rw [lr_rlwe hR (i := h) hh]
  exact pm_iret (ty := .int) rfl rfl (by decide) (by decide) (by decide +kernel) (⟨rfl, rfl⟩)
set_option maxHeartbeats 4000000 in
set_option maxRecDepth 100000 in
theorem c_X4_numberOf_2 {g : Nat → Int32} {h : Nat} (μ : pm_Mm) (hR : lr_Rel μ.1 1 g) (hG : lr_G g) (hh : h < lr_n g 289) : pm_CT mi_X4_numberOf [.ref 26, .int (nI h), .int 2] μ (fun v μ2 => v = some (.int (g (292 + 11 * h))) ∧ μ2 = μ) pm_NX := by
  refine pm_CT_of (lo := [some (.ref 26), some (.int (nI h)), some (.int 2)]) (by decide +kernel) rfl rfl (by intro v hv; simp at hv; rcases hv with rfl | rfl | rfl <;> rfl) (Nat.le_of_ble_eq_true rfl) rfl ?_
  have hm1 := lr_mh hG; have hm2 := lr_mw hG; have hm3 := lr_mp hG; have hm4 := lr_mr hG; have hm5 := lr_ma hG; have hm6 := lr_ml hG
  refine pm_bl [(.iload_n 2, 1, 2, 0, 0)] (pc1 := 1) (lo1 := [some (.ref 26), some (.int (nI h)), some (.int 2)]) (st1 := [.int 2]) (μ1 := μ) (vc := True) rfl (by decide +kernel) rfl trivial ?_
  refine pm_tswI (off := 69) 70 (by decide +kernel) (by decide) (by decide) (by decide) (by decide) ?_
  refine pm_bl [(.aload_n 0, 1, 0, 0, 0), (.getfield 25, 3, 4, 4, 0), (.iload_n 1, 1, 1, 0, 0), (.iaload, 1, 0, 0, 0)] (pc1 := 76) (lo1 := [some (.ref 26), some (.int (nI h)), some (.int 2)]) (st1 := [.int (μ.1 29 (nI h).toNatClampNeg)]) (μ1 := μ) (vc := vp_in (nI h) 30 ∧ True) rfl (by decide +kernel) rfl ⟨(vp_in_nI (by omega) (by omega)), trivial⟩ ?_
  first | rw [nI_clamp (n := h) (by omega), lr_rlre hR (i := h) hh] | rw [lr_rlre hR (i := h) hh]
  exact pm_iret (ty := .int) rfl rfl (by decide) (by decide) (by decide +kernel) (⟨rfl, rfl⟩)
set_option maxHeartbeats 4000000 in
set_option maxRecDepth 100000 in
theorem c_X4_numberOf_3 {g : Nat → Int32} {h : Nat} (μ : pm_Mm) (hR : lr_Rel μ.1 1 g) (hG : lr_G g) (hh : h < lr_n g 289) : pm_CT mi_X4_numberOf [.ref 26, .int (nI h), .int 3] μ (fun v μ2 => v = some (.int (g (293 + 11 * h))) ∧ μ2 = μ) pm_NX := by
  refine pm_CT_of (lo := [some (.ref 26), some (.int (nI h)), some (.int 3)]) (by decide +kernel) rfl rfl (by intro v hv; simp at hv; rcases hv with rfl | rfl | rfl <;> rfl) (Nat.le_of_ble_eq_true rfl) rfl ?_
  have hm1 := lr_mh hG; have hm2 := lr_mw hG; have hm3 := lr_mp hG; have hm4 := lr_mr hG; have hm5 := lr_ma hG; have hm6 := lr_ml hG
  refine pm_bl [(.iload_n 2, 1, 2, 0, 0)] (pc1 := 1) (lo1 := [some (.ref 26), some (.int (nI h)), some (.int 3)]) (st1 := [.int 3]) (μ1 := μ) (vc := True) rfl (by decide +kernel) rfl trivial ?_
  refine pm_tswI (off := 76) 77 (by decide +kernel) (by decide) (by decide) (by decide) (by decide) ?_
  refine pm_bl [(.aload_n 0, 1, 0, 0, 0), (.getfield 28, 3, 4, 5, 0), (.iload_n 1, 1, 1, 0, 0), (.iaload, 1, 0, 0, 0)] (pc1 := 83) (lo1 := [some (.ref 26), some (.int (nI h)), some (.int 3)]) (st1 := [.int (μ.1 30 (nI h).toNatClampNeg)]) (μ1 := μ) (vc := vp_in (nI h) 30 ∧ True) rfl (by decide +kernel) rfl ⟨(vp_in_nI (by omega) (by omega)), trivial⟩ ?_
  first | rw [nI_clamp (n := h) (by omega), lr_rlca hR (i := h) hh] | rw [lr_rlca hR (i := h) hh]
  exact pm_iret (ty := .int) rfl rfl (by decide) (by decide) (by decide +kernel) (⟨rfl, rfl⟩)
set_option maxHeartbeats 4000000 in
set_option maxRecDepth 100000 in
theorem c_X4_numberOf_4 {g : Nat → Int32} {h : Nat} (μ : pm_Mm) (hR : lr_Rel μ.1 1 g) (hG : lr_G g) (hh : h < lr_n g 289) : pm_CT mi_X4_numberOf [.ref 26, .int (nI h), .int 4] μ (fun v μ2 => v = some (.int (g (294 + 11 * h))) ∧ μ2 = μ) pm_NX := by
  refine pm_CT_of (lo := [some (.ref 26), some (.int (nI h)), some (.int 4)]) (by decide +kernel) rfl rfl (by intro v hv; simp at hv; rcases hv with rfl | rfl | rfl <;> rfl) (Nat.le_of_ble_eq_true rfl) rfl ?_
  have hm1 := lr_mh hG; have hm2 := lr_mw hG; have hm3 := lr_mp hG; have hm4 := lr_mr hG; have hm5 := lr_ma hG; have hm6 := lr_ml hG
  refine pm_bl [(.iload_n 2, 1, 2, 0, 0)] (pc1 := 1) (lo1 := [some (.ref 26), some (.int (nI h)), some (.int 4)]) (st1 := [.int 4]) (μ1 := μ) (vc := True) rfl (by decide +kernel) rfl trivial ?_
  refine pm_tswI (off := 83) 84 (by decide +kernel) (by decide) (by decide) (by decide) (by decide) ?_
  refine pm_bl [(.aload_n 0, 1, 0, 0, 0), (.getfield 31, 3, 4, 6, 0), (.iload_n 1, 1, 1, 0, 0), (.iaload, 1, 0, 0, 0)] (pc1 := 90) (lo1 := [some (.ref 26), some (.int (nI h)), some (.int 4)]) (st1 := [.int (μ.1 31 (nI h).toNatClampNeg)]) (μ1 := μ) (vc := vp_in (nI h) 30 ∧ True) rfl (by decide +kernel) rfl ⟨(vp_in_nI (by omega) (by omega)), trivial⟩ ?_
  first | rw [nI_clamp (n := h) (by omega), lr_rlst hR (i := h) hh] | rw [lr_rlst hR (i := h) hh]
  exact pm_iret (ty := .int) rfl rfl (by decide) (by decide) (by decide +kernel) (⟨rfl, rfl⟩)
set_option maxHeartbeats 4000000 in
set_option maxRecDepth 100000 in
theorem c_X4_numberOf_5 {g : Nat → Int32} {h : Nat} (μ : pm_Mm) (hR : lr_Rel μ.1 1 g) (hG : lr_G g) (hh : h < lr_n g 289) : pm_CT mi_X4_numberOf [.ref 26, .int (nI h), .int 5] μ (fun v μ2 => v = some (.int (g (295 + 11 * h))) ∧ μ2 = μ) pm_NX := by
  refine pm_CT_of (lo := [some (.ref 26), some (.int (nI h)), some (.int 5)]) (by decide +kernel) rfl rfl (by intro v hv; simp at hv; rcases hv with rfl | rfl | rfl <;> rfl) (Nat.le_of_ble_eq_true rfl) rfl ?_
  have hm1 := lr_mh hG; have hm2 := lr_mw hG; have hm3 := lr_mp hG; have hm4 := lr_mr hG; have hm5 := lr_ma hG; have hm6 := lr_ml hG
  refine pm_bl [(.iload_n 2, 1, 2, 0, 0)] (pc1 := 1) (lo1 := [some (.ref 26), some (.int (nI h)), some (.int 5)]) (st1 := [.int 5]) (μ1 := μ) (vc := True) rfl (by decide +kernel) rfl trivial ?_
  refine pm_tswI (off := 90) 91 (by decide +kernel) (by decide) (by decide) (by decide) (by decide) ?_
  refine pm_bl [(.aload_n 0, 1, 0, 0, 0), (.getfield 34, 3, 4, 7, 0), (.iload_n 1, 1, 1, 0, 0), (.iaload, 1, 0, 0, 0)] (pc1 := 97) (lo1 := [some (.ref 26), some (.int (nI h)), some (.int 5)]) (st1 := [.int (μ.1 32 (nI h).toNatClampNeg)]) (μ1 := μ) (vc := vp_in (nI h) 30 ∧ True) rfl (by decide +kernel) rfl ⟨(vp_in_nI (by omega) (by omega)), trivial⟩ ?_
  first | rw [nI_clamp (n := h) (by omega), lr_rlen hR (i := h) hh] | rw [lr_rlen hR (i := h) hh]
  exact pm_iret (ty := .int) rfl rfl (by decide) (by decide) (by decide +kernel) (⟨rfl, rfl⟩)
set_option maxHeartbeats 4000000 in
set_option maxRecDepth 100000 in
theorem c_X4_numberOf_6 {g : Nat → Int32} {h : Nat} (μ : pm_Mm) (hR : lr_Rel μ.1 1 g) (hG : lr_G g) (hh : h < lr_n g 289) : pm_CT mi_X4_numberOf [.ref 26, .int (nI h), .int 6] μ (fun v μ2 => v = some (.int (g (296 + 11 * h))) ∧ μ2 = μ) pm_NX := by
  refine pm_CT_of (lo := [some (.ref 26), some (.int (nI h)), some (.int 6)]) (by decide +kernel) rfl rfl (by intro v hv; simp at hv; rcases hv with rfl | rfl | rfl <;> rfl) (Nat.le_of_ble_eq_true rfl) rfl ?_
  have hm1 := lr_mh hG; have hm2 := lr_mw hG; have hm3 := lr_mp hG; have hm4 := lr_mr hG; have hm5 := lr_ma hG; have hm6 := lr_ml hG
  refine pm_bl [(.iload_n 2, 1, 2, 0, 0)] (pc1 := 1) (lo1 := [some (.ref 26), some (.int (nI h)), some (.int 6)]) (st1 := [.int 6]) (μ1 := μ) (vc := True) rfl (by decide +kernel) rfl trivial ?_
  refine pm_tswI (off := 97) 98 (by decide +kernel) (by decide) (by decide) (by decide) (by decide) ?_
  refine pm_bl [(.aload_n 0, 1, 0, 0, 0), (.getfield 37, 3, 4, 8, 0), (.iload_n 1, 1, 1, 0, 0), (.iaload, 1, 0, 0, 0)] (pc1 := 104) (lo1 := [some (.ref 26), some (.int (nI h)), some (.int 6)]) (st1 := [.int (μ.1 33 (nI h).toNatClampNeg)]) (μ1 := μ) (vc := vp_in (nI h) 30 ∧ True) rfl (by decide +kernel) rfl ⟨(vp_in_nI (by omega) (by omega)), trivial⟩ ?_
  first | rw [nI_clamp (n := h) (by omega), lr_rlrs hR (i := h) hh] | rw [lr_rlrs hR (i := h) hh]
  exact pm_iret (ty := .int) rfl rfl (by decide) (by decide) (by decide +kernel) (⟨rfl, rfl⟩)
set_option maxHeartbeats 4000000 in
set_option maxRecDepth 100000 in
theorem c_X4_numberOf_7 {g : Nat → Int32} {h : Nat} (μ : pm_Mm) (hR : lr_Rel μ.1 1 g) (hG : lr_G g) (hh : h < lr_n g 289) : pm_CT mi_X4_numberOf [.ref 26, .int (nI h), .int 7] μ (fun v μ2 => v = some (.int (g (297 + 11 * h))) ∧ μ2 = μ) pm_NX := by
  refine pm_CT_of (lo := [some (.ref 26), some (.int (nI h)), some (.int 7)]) (by decide +kernel) rfl rfl (by intro v hv; simp at hv; rcases hv with rfl | rfl | rfl <;> rfl) (Nat.le_of_ble_eq_true rfl) rfl ?_
  have hm1 := lr_mh hG; have hm2 := lr_mw hG; have hm3 := lr_mp hG; have hm4 := lr_mr hG; have hm5 := lr_ma hG; have hm6 := lr_ml hG
  refine pm_bl [(.iload_n 2, 1, 2, 0, 0)] (pc1 := 1) (lo1 := [some (.ref 26), some (.int (nI h)), some (.int 7)]) (st1 := [.int 7]) (μ1 := μ) (vc := True) rfl (by decide +kernel) rfl trivial ?_
  refine pm_tswI (off := 104) 105 (by decide +kernel) (by decide) (by decide) (by decide) (by decide) ?_
  refine pm_bl [(.aload_n 0, 1, 0, 0, 0), (.getfield 40, 3, 4, 9, 0), (.iload_n 1, 1, 1, 0, 0), (.iaload, 1, 0, 0, 0)] (pc1 := 111) (lo1 := [some (.ref 26), some (.int (nI h)), some (.int 7)]) (st1 := [.int (μ.1 34 (nI h).toNatClampNeg)]) (μ1 := μ) (vc := vp_in (nI h) 30 ∧ True) rfl (by decide +kernel) rfl ⟨(vp_in_nI (by omega) (by omega)), trivial⟩ ?_
  first | rw [nI_clamp (n := h) (by omega), lr_rltr hR (i := h) hh] | rw [lr_rltr hR (i := h) hh]
  exact pm_iret (ty := .int) rfl rfl (by decide) (by decide) (by decide +kernel) (⟨rfl, rfl⟩)
set_option maxHeartbeats 4000000 in
set_option maxRecDepth 100000 in
theorem c_X4_numberOf_8 {g : Nat → Int32} {h : Nat} (μ : pm_Mm) (hR : lr_Rel μ.1 1 g) (hG : lr_G g) (hh : h < lr_n g 289) : pm_CT mi_X4_numberOf [.ref 26, .int (nI h), .int 8] μ (fun v μ2 => v = some (.int (g (298 + 11 * h))) ∧ μ2 = μ) pm_NX := by
  refine pm_CT_of (lo := [some (.ref 26), some (.int (nI h)), some (.int 8)]) (by decide +kernel) rfl rfl (by intro v hv; simp at hv; rcases hv with rfl | rfl | rfl <;> rfl) (Nat.le_of_ble_eq_true rfl) rfl ?_
  have hm1 := lr_mh hG; have hm2 := lr_mw hG; have hm3 := lr_mp hG; have hm4 := lr_mr hG; have hm5 := lr_ma hG; have hm6 := lr_ml hG
  refine pm_bl [(.iload_n 2, 1, 2, 0, 0)] (pc1 := 1) (lo1 := [some (.ref 26), some (.int (nI h)), some (.int 8)]) (st1 := [.int 8]) (μ1 := μ) (vc := True) rfl (by decide +kernel) rfl trivial ?_
  refine pm_tswI (off := 111) 112 (by decide +kernel) (by decide) (by decide) (by decide) (by decide) ?_
  refine pm_bl [(.aload_n 0, 1, 0, 0, 0), (.getfield 43, 3, 4, 10, 0), (.iload_n 1, 1, 1, 0, 0), (.iaload, 1, 0, 0, 0)] (pc1 := 118) (lo1 := [some (.ref 26), some (.int (nI h)), some (.int 8)]) (st1 := [.int (μ.1 35 (nI h).toNatClampNeg)]) (μ1 := μ) (vc := vp_in (nI h) 30 ∧ True) rfl (by decide +kernel) rfl ⟨(vp_in_nI (by omega) (by omega)), trivial⟩ ?_
  first | rw [nI_clamp (n := h) (by omega), lr_rlho hR (i := h) hh] | rw [lr_rlho hR (i := h) hh]
  exact pm_iret (ty := .int) rfl rfl (by decide) (by decide) (by decide +kernel) (⟨rfl, rfl⟩)
set_option maxHeartbeats 4000000 in
set_option maxRecDepth 100000 in
theorem c_X4_numberOf_9 {g : Nat → Int32} {h : Nat} (μ : pm_Mm) (hR : lr_Rel μ.1 1 g) (hG : lr_G g) (hh : h < lr_n g 289) : pm_CT mi_X4_numberOf [.ref 26, .int (nI h), .int 9] μ (fun v μ2 => v = some (.int (g (299 + 11 * h))) ∧ μ2 = μ) pm_NX := by
  refine pm_CT_of (lo := [some (.ref 26), some (.int (nI h)), some (.int 9)]) (by decide +kernel) rfl rfl (by intro v hv; simp at hv; rcases hv with rfl | rfl | rfl <;> rfl) (Nat.le_of_ble_eq_true rfl) rfl ?_
  have hm1 := lr_mh hG; have hm2 := lr_mw hG; have hm3 := lr_mp hG; have hm4 := lr_mr hG; have hm5 := lr_ma hG; have hm6 := lr_ml hG
  refine pm_bl [(.iload_n 2, 1, 2, 0, 0)] (pc1 := 1) (lo1 := [some (.ref 26), some (.int (nI h)), some (.int 9)]) (st1 := [.int 9]) (μ1 := μ) (vc := True) rfl (by decide +kernel) rfl trivial ?_
  refine pm_tswI (off := 118) 119 (by decide +kernel) (by decide) (by decide) (by decide) (by decide) ?_
  refine pm_bl [(.aload_n 0, 1, 0, 0, 0), (.getfield 46, 3, 4, 11, 0), (.iload_n 1, 1, 1, 0, 0), (.iaload, 1, 0, 0, 0)] (pc1 := 125) (lo1 := [some (.ref 26), some (.int (nI h)), some (.int 9)]) (st1 := [.int (μ.1 36 (nI h).toNatClampNeg)]) (μ1 := μ) (vc := vp_in (nI h) 30 ∧ True) rfl (by decide +kernel) rfl ⟨(vp_in_nI (by omega) (by omega)), trivial⟩ ?_
  first | rw [nI_clamp (n := h) (by omega), lr_rlsi hR (i := h) hh] | rw [lr_rlsi hR (i := h) hh]
  exact pm_iret (ty := .int) rfl rfl (by decide) (by decide) (by decide +kernel) (⟨rfl, rfl⟩)
set_option maxHeartbeats 4000000 in
set_option maxRecDepth 100000 in
theorem c_X4_numberOf_10 {g : Nat → Int32} {h : Nat} (μ : pm_Mm) (hR : lr_Rel μ.1 1 g) (hG : lr_G g) (hh : h < lr_n g 289) : pm_CT mi_X4_numberOf [.ref 26, .int (nI h), .int 10] μ (fun v μ2 => v = some (.int (g (300 + 11 * h))) ∧ μ2 = μ) pm_NX := by
  refine pm_CT_of (lo := [some (.ref 26), some (.int (nI h)), some (.int 10)]) (by decide +kernel) rfl rfl (by intro v hv; simp at hv; rcases hv with rfl | rfl | rfl <;> rfl) (Nat.le_of_ble_eq_true rfl) rfl ?_
  have hm1 := lr_mh hG; have hm2 := lr_mw hG; have hm3 := lr_mp hG; have hm4 := lr_mr hG; have hm5 := lr_ma hG; have hm6 := lr_ml hG
  refine pm_bl [(.iload_n 2, 1, 2, 0, 0)] (pc1 := 1) (lo1 := [some (.ref 26), some (.int (nI h)), some (.int 10)]) (st1 := [.int 10]) (μ1 := μ) (vc := True) rfl (by decide +kernel) rfl trivial ?_
  refine pm_tswO 126 (by decide +kernel) (Or.inr (by decide)) (by decide) ?_
  refine pm_bl [(.aload_n 0, 1, 0, 0, 0), (.getfield 49, 3, 4, 12, 0), (.iload_n 1, 1, 1, 0, 0), (.iaload, 1, 0, 0, 0)] (pc1 := 132) (lo1 := [some (.ref 26), some (.int (nI h)), some (.int 10)]) (st1 := [.int (μ.1 37 (nI h).toNatClampNeg)]) (μ1 := μ) (vc := vp_in (nI h) 30 ∧ True) rfl (by decide +kernel) rfl ⟨(vp_in_nI (by omega) (by omega)), trivial⟩ ?_
  first | rw [nI_clamp (n := h) (by omega), lr_rlnu hR (i := h) hh] | rw [lr_rlnu hR (i := h) hh]
  exact pm_iret (ty := .int) rfl rfl (by decide) (by decide) (by decide +kernel) (⟨rfl, rfl⟩)
set_option maxHeartbeats 4000000 in
set_option maxRecDepth 100000 in
theorem c_X9_letter_no1 {g : Nat → Int32} {x : Int32} (y : Int32) (μ : pm_Mm) (hR : lr_Rel μ.1 1 g) (hG : lr_G g) (hb : lr_be x (nI (lr_n g 289)) = false) : pm_CT mi_X9_letter [.ref 0, .int x, .int y] μ (fun _ _ => False) (fun E μ2 => E = "java/lang/IndexOutOfBoundsException" ∧ μ2 = μ) := by
  refine pm_CT_of (lo := [some (.ref 0), some (.int x), some (.int y)]) (by decide +kernel) rfl rfl (by intro v hv; simp at hv; rcases hv with rfl | rfl | rfl <;> rfl) (Nat.le_of_ble_eq_true rfl) rfl ?_
  have hm1 := lr_mh hG; have hm2 := lr_mw hG; have hm3 := lr_mp hG; have hm4 := lr_mr hG; have hm5 := lr_ma hG; have hm6 := lr_ml hG
  refine pm_bl [(.aload_n 0, 1, 0, 0, 0), (.iload_n 1, 1, 1, 0, 0)] (pc1 := 2) (lo1 := [some (.ref 0), some (.int x), some (.int y)]) (st1 := [.int x, .ref 0]) (μ1 := μ) (vc := True) rfl (by decide +kernel) rfl trivial ?_
  refine pm_callV2 mi_X9_requireLetter (ix := 282) (b := 0) (ci := 9) (kc2 := 1) (ks2 := 6) (As := [.int x]) (rest := []) (c_X9_requireLetter_no x μ hR hG hb) cal_X9_requireLetter lk9_282 (by decide +kernel) rfl (by decide +kernel) rfl rfl rfl rfl (Nat.le_of_ble_eq_true rfl) (by decide) (by decide) (fun E μ9 h9 => h9) ?_
  rintro _ _ h9; exact h9.elim
set_option maxHeartbeats 4000000 in
set_option maxRecDepth 100000 in
theorem c_X9_letter_no2 {g : Nat → Int32} {h : Nat} {y : Int32} (μ : pm_Mm) (hR : lr_Rel μ.1 1 g) (hG : lr_G g) (hh : h < lr_n g 289) (hl : lr_in y 0 10 = false) : pm_CT mi_X9_letter [.ref 0, .int (nI h), .int y] μ (fun _ _ => False) (fun E μ2 => E = "java/lang/IllegalArgumentException" ∧ μ2 = μ) := by
  refine pm_CT_of (lo := [some (.ref 0), some (.int (nI h)), some (.int y)]) (by decide +kernel) rfl rfl (by intro v hv; simp at hv; rcases hv with rfl | rfl | rfl <;> rfl) (Nat.le_of_ble_eq_true rfl) rfl ?_
  have hm1 := lr_mh hG; have hm2 := lr_mw hG; have hm3 := lr_mp hG; have hm4 := lr_mr hG; have hm5 := lr_ma hG; have hm6 := lr_ml hG
  refine pm_bl [(.aload_n 0, 1, 0, 0, 0), (.iload_n 1, 1, 1, 0, 0)] (pc1 := 2) (lo1 := [some (.ref 0), some (.int (nI h)), some (.int y)]) (st1 := [.int (nI h), .ref 0]) (μ1 := μ) (vc := True) rfl (by decide +kernel) rfl trivial ?_
  refine pm_callV2 mi_X9_requireLetter (ix := 282) (b := 0) (ci := 9) (kc2 := 1) (ks2 := 6) (As := [.int (nI h)]) (rest := []) (c_X9_requireLetter (nI h) μ (by first | exact hR | exact hR1) hG (lr_be_1 hh (by omega))) cal_X9_requireLetter lk9_282 (by decide +kernel) rfl (by decide +kernel) rfl rfl rfl rfl (Nat.le_of_ble_eq_true rfl) (by decide) (by decide) (fun _ _ h9 => h9.elim) ?_
  rintro _ _ ⟨rfl, h9⟩; rw [h9]; clear h9
  show pm_V _ _ _ _ 5 _ [] _
  refine pm_bl [(.iload_n 2, 1, 2, 0, 0), (.iconst 0, 1, 0, 0, 0), (.bipush 10, 2, 0, 0, 10)] (pc1 := 9) (lo1 := [some (.ref 0), some (.int (nI h)), some (.int y)]) (st1 := [.int 10, .int 0, .int y]) (μ1 := μ) (vc := True) rfl (by decide +kernel) rfl trivial ?_
  refine pm_callS2 mi_X9_isBetween (ix := 102) (kc2 := 1) (ks2 := 6) (As := [.int y, .int 0, .int 10]) (rest := []) (c_X9_isBetween y 0 10 μ) cal_X9_isBetween lk9_102 (by decide +kernel) rfl (by decide +kernel) rfl rfl (Nat.le_of_ble_eq_true rfl) (by decide) (by decide) (fun _ _ h9 => h9.elim) ?_
  rintro _ _ ⟨rfl, h9⟩; rw [h9]; clear h9
  show pm_V _ _ _ _ 12 _ [.int (lr_b (lr_in y 0 10))] _
  refine pm_ifb_ne (off := 14) 26 (by decide +kernel) (by decide) (fun (h9 : (lr_in y 0 10) = true) => absurd (hl.symm.trans h9) (by decide)) (fun (h12 : (lr_in y 0 10) = false) => ?_)
  exact pm_throwW (is := 285) (tx := "what is not from 0 to 10") pm_exIA rfl (by decide +kernel) rfl (by decide +kernel) (by decide +kernel) (by decide +kernel) (by decide +kernel) (by decide +kernel) (by decide) (by decide) (⟨rfl, rfl⟩)
set_option maxHeartbeats 4000000 in
set_option maxRecDepth 100000 in
theorem c_X9_letter_0 {g : Nat → Int32} {h : Nat} (μ : pm_Mm) (hR : lr_Rel μ.1 1 g) (hG : lr_G g) (hh : h < lr_n g 289) : pm_CT mi_X9_letter [.ref 0, .int (nI h), .int 0] μ (fun v μ2 => v = some (.int (g (290 + 11 * h))) ∧ μ2 = μ) pm_NX := by
  refine pm_CT_of (lo := [some (.ref 0), some (.int (nI h)), some (.int 0)]) (by decide +kernel) rfl rfl (by intro v hv; simp at hv; rcases hv with rfl | rfl | rfl <;> rfl) (Nat.le_of_ble_eq_true rfl) rfl ?_
  have hm1 := lr_mh hG; have hm2 := lr_mw hG; have hm3 := lr_mp hG; have hm4 := lr_mr hG; have hm5 := lr_ma hG; have hm6 := lr_ml hG
  refine pm_bl [(.aload_n 0, 1, 0, 0, 0), (.iload_n 1, 1, 1, 0, 0)] (pc1 := 2) (lo1 := [some (.ref 0), some (.int (nI h)), some (.int 0)]) (st1 := [.int (nI h), .ref 0]) (μ1 := μ) (vc := True) rfl (by decide +kernel) rfl trivial ?_
  refine pm_callV2 mi_X9_requireLetter (ix := 282) (b := 0) (ci := 9) (kc2 := 1) (ks2 := 6) (As := [.int (nI h)]) (rest := []) (c_X9_requireLetter (nI h) μ (by first | exact hR | exact hR1) hG (lr_be_1 hh (by omega))) cal_X9_requireLetter lk9_282 (by decide +kernel) rfl (by decide +kernel) rfl rfl rfl rfl (Nat.le_of_ble_eq_true rfl) (by decide) (by decide) (fun _ _ h9 => h9.elim) ?_
  rintro _ _ ⟨rfl, h9⟩; rw [h9]; clear h9
  show pm_V _ _ _ _ 5 _ [] _
  refine pm_bl [(.iload_n 2, 1, 2, 0, 0), (.iconst 0, 1, 0, 0, 0), (.bipush 10, 2, 0, 0, 10)] (pc1 := 9) (lo1 := [some (.ref 0), some (.int (nI h)), some (.int 0)]) (st1 := [.int 10, .int 0, .int 0]) (μ1 := μ) (vc := True) rfl (by decide +kernel) rfl trivial ?_
  refine pm_callS2 mi_X9_isBetween (ix := 102) (kc2 := 1) (ks2 := 6) (As := [.int 0, .int 0, .int 10]) (rest := []) (c_X9_isBetween 0 0 10 μ) cal_X9_isBetween lk9_102 (by decide +kernel) rfl (by decide +kernel) rfl rfl (Nat.le_of_ble_eq_true rfl) (by decide) (by decide) (fun _ _ h9 => h9.elim) ?_
  rintro _ _ ⟨rfl, h9⟩; rw [h9]; clear h9
  show pm_V _ _ _ _ 12 _ [.int (lr_b (lr_in 0 0 10))] _
  refine pm_ifb_ne (off := 14) 26 (by decide +kernel) (by decide) (fun (h12 : (lr_in 0 0 10) = true) => ?_) (fun (h9 : (lr_in 0 0 10) = false) => absurd (h9.symm.trans (show lr_in 0 0 10 = true by decide)) (by decide))
  refine pm_bl [(.aload_n 0, 1, 0, 0, 0), (.getfield 10, 3, 9, 0, 0), (.getfield 235, 3, 5, 5, 0), (.iload_n 1, 1, 1, 0, 0), (.iload_n 2, 1, 2, 0, 0)] (pc1 := 35) (lo1 := [some (.ref 0), some (.int (nI h)), some (.int 0)]) (st1 := [.int 0, .int (nI h), .ref 26]) (μ1 := μ) (vc := True) rfl (by decide +kernel) rfl trivial ?_
  refine pm_callV2 mi_X4_numberOf (ix := 287) (b := 26) (ci := 4) (kc2 := 1) (ks2 := 6) (As := [.int (nI h), .int 0]) (rest := []) (c_X4_numberOf_0 (h := h) μ hR hG hh) cal_X4_numberOf lk9_287 (by decide +kernel) rfl (by decide +kernel) rfl rfl rfl rfl (Nat.le_of_ble_eq_true rfl) (by decide) (by decide) (fun _ _ h9 => h9.elim) ?_
  rintro _ _ ⟨rfl, h9⟩; rw [h9]; clear h9
  show pm_V _ _ _ _ 38 _ [.int (g (290 + 11 * h))] _
  exact pm_iret (ty := .int) rfl rfl (by decide) (by decide) (by decide +kernel) (⟨rfl, rfl⟩)
set_option maxHeartbeats 4000000 in
set_option maxRecDepth 100000 in
theorem c_X9_letter_1 {g : Nat → Int32} {h : Nat} (μ : pm_Mm) (hR : lr_Rel μ.1 1 g) (hG : lr_G g) (hh : h < lr_n g 289) : pm_CT mi_X9_letter [.ref 0, .int (nI h), .int 1] μ (fun v μ2 => v = some (.int (g (291 + 11 * h))) ∧ μ2 = μ) pm_NX := by
  refine pm_CT_of (lo := [some (.ref 0), some (.int (nI h)), some (.int 1)]) (by decide +kernel) rfl rfl (by intro v hv; simp at hv; rcases hv with rfl | rfl | rfl <;> rfl) (Nat.le_of_ble_eq_true rfl) rfl ?_
  have hm1 := lr_mh hG; have hm2 := lr_mw hG; have hm3 := lr_mp hG; have hm4 := lr_mr hG; have hm5 := lr_ma hG; have hm6 := lr_ml hG
  refine pm_bl [(.aload_n 0, 1, 0, 0, 0), (.iload_n 1, 1, 1, 0, 0)] (pc1 := 2) (lo1 := [some (.ref 0), some (.int (nI h)), some (.int 1)]) (st1 := [.int (nI h), .ref 0]) (μ1 := μ) (vc := True) rfl (by decide +kernel) rfl trivial ?_
  refine pm_callV2 mi_X9_requireLetter (ix := 282) (b := 0) (ci := 9) (kc2 := 1) (ks2 := 6) (As := [.int (nI h)]) (rest := []) (c_X9_requireLetter (nI h) μ (by first | exact hR | exact hR1) hG (lr_be_1 hh (by omega))) cal_X9_requireLetter lk9_282 (by decide +kernel) rfl (by decide +kernel) rfl rfl rfl rfl (Nat.le_of_ble_eq_true rfl) (by decide) (by decide) (fun _ _ h9 => h9.elim) ?_
  rintro _ _ ⟨rfl, h9⟩; rw [h9]; clear h9
  show pm_V _ _ _ _ 5 _ [] _
  refine pm_bl [(.iload_n 2, 1, 2, 0, 0), (.iconst 0, 1, 0, 0, 0), (.bipush 10, 2, 0, 0, 10)] (pc1 := 9) (lo1 := [some (.ref 0), some (.int (nI h)), some (.int 1)]) (st1 := [.int 10, .int 0, .int 1]) (μ1 := μ) (vc := True) rfl (by decide +kernel) rfl trivial ?_
  refine pm_callS2 mi_X9_isBetween (ix := 102) (kc2 := 1) (ks2 := 6) (As := [.int 1, .int 0, .int 10]) (rest := []) (c_X9_isBetween 1 0 10 μ) cal_X9_isBetween lk9_102 (by decide +kernel) rfl (by decide +kernel) rfl rfl (Nat.le_of_ble_eq_true rfl) (by decide) (by decide) (fun _ _ h9 => h9.elim) ?_
  rintro _ _ ⟨rfl, h9⟩; rw [h9]; clear h9
  show pm_V _ _ _ _ 12 _ [.int (lr_b (lr_in 1 0 10))] _
  refine pm_ifb_ne (off := 14) 26 (by decide +kernel) (by decide) (fun (h12 : (lr_in 1 0 10) = true) => ?_) (fun (h9 : (lr_in 1 0 10) = false) => absurd (h9.symm.trans (show lr_in 1 0 10 = true by decide)) (by decide))
  refine pm_bl [(.aload_n 0, 1, 0, 0, 0), (.getfield 10, 3, 9, 0, 0), (.getfield 235, 3, 5, 5, 0), (.iload_n 1, 1, 1, 0, 0), (.iload_n 2, 1, 2, 0, 0)] (pc1 := 35) (lo1 := [some (.ref 0), some (.int (nI h)), some (.int 1)]) (st1 := [.int 1, .int (nI h), .ref 26]) (μ1 := μ) (vc := True) rfl (by decide +kernel) rfl trivial ?_
  refine pm_callV2 mi_X4_numberOf (ix := 287) (b := 26) (ci := 4) (kc2 := 1) (ks2 := 6) (As := [.int (nI h), .int 1]) (rest := []) (c_X4_numberOf_1 (h := h) μ hR hG hh) cal_X4_numberOf lk9_287 (by decide +kernel) rfl (by decide +kernel) rfl rfl rfl rfl (Nat.le_of_ble_eq_true rfl) (by decide) (by decide) (fun _ _ h9 => h9.elim) ?_
  rintro _ _ ⟨rfl, h9⟩; rw [h9]; clear h9
  show pm_V _ _ _ _ 38 _ [.int (g (291 + 11 * h))] _
  exact pm_iret (ty := .int) rfl rfl (by decide) (by decide) (by decide +kernel) (⟨rfl, rfl⟩)
set_option maxHeartbeats 4000000 in
set_option maxRecDepth 100000 in
theorem c_X9_letter_2 {g : Nat → Int32} {h : Nat} (μ : pm_Mm) (hR : lr_Rel μ.1 1 g) (hG : lr_G g) (hh : h < lr_n g 289) : pm_CT mi_X9_letter [.ref 0, .int (nI h), .int 2] μ (fun v μ2 => v = some (.int (g (292 + 11 * h))) ∧ μ2 = μ) pm_NX := by
  refine pm_CT_of (lo := [some (.ref 0), some (.int (nI h)), some (.int 2)]) (by decide +kernel) rfl rfl (by intro v hv; simp at hv; rcases hv with rfl | rfl | rfl <;> rfl) (Nat.le_of_ble_eq_true rfl) rfl ?_
  have hm1 := lr_mh hG; have hm2 := lr_mw hG; have hm3 := lr_mp hG; have hm4 := lr_mr hG; have hm5 := lr_ma hG; have hm6 := lr_ml hG
  refine pm_bl [(.aload_n 0, 1, 0, 0, 0), (.iload_n 1, 1, 1, 0, 0)] (pc1 := 2) (lo1 := [some (.ref 0), some (.int (nI h)), some (.int 2)]) (st1 := [.int (nI h), .ref 0]) (μ1 := μ) (vc := True) rfl (by decide +kernel) rfl trivial ?_
  refine pm_callV2 mi_X9_requireLetter (ix := 282) (b := 0) (ci := 9) (kc2 := 1) (ks2 := 6) (As := [.int (nI h)]) (rest := []) (c_X9_requireLetter (nI h) μ (by first | exact hR | exact hR1) hG (lr_be_1 hh (by omega))) cal_X9_requireLetter lk9_282 (by decide +kernel) rfl (by decide +kernel) rfl rfl rfl rfl (Nat.le_of_ble_eq_true rfl) (by decide) (by decide) (fun _ _ h9 => h9.elim) ?_
  rintro _ _ ⟨rfl, h9⟩; rw [h9]; clear h9
  show pm_V _ _ _ _ 5 _ [] _
  refine pm_bl [(.iload_n 2, 1, 2, 0, 0), (.iconst 0, 1, 0, 0, 0), (.bipush 10, 2, 0, 0, 10)] (pc1 := 9) (lo1 := [some (.ref 0), some (.int (nI h)), some (.int 2)]) (st1 := [.int 10, .int 0, .int 2]) (μ1 := μ) (vc := True) rfl (by decide +kernel) rfl trivial ?_
  refine pm_callS2 mi_X9_isBetween (ix := 102) (kc2 := 1) (ks2 := 6) (As := [.int 2, .int 0, .int 10]) (rest := []) (c_X9_isBetween 2 0 10 μ) cal_X9_isBetween lk9_102 (by decide +kernel) rfl (by decide +kernel) rfl rfl (Nat.le_of_ble_eq_true rfl) (by decide) (by decide) (fun _ _ h9 => h9.elim) ?_
  rintro _ _ ⟨rfl, h9⟩; rw [h9]; clear h9
  show pm_V _ _ _ _ 12 _ [.int (lr_b (lr_in 2 0 10))] _
  refine pm_ifb_ne (off := 14) 26 (by decide +kernel) (by decide) (fun (h12 : (lr_in 2 0 10) = true) => ?_) (fun (h9 : (lr_in 2 0 10) = false) => absurd (h9.symm.trans (show lr_in 2 0 10 = true by decide)) (by decide))
  refine pm_bl [(.aload_n 0, 1, 0, 0, 0), (.getfield 10, 3, 9, 0, 0), (.getfield 235, 3, 5, 5, 0), (.iload_n 1, 1, 1, 0, 0), (.iload_n 2, 1, 2, 0, 0)] (pc1 := 35) (lo1 := [some (.ref 0), some (.int (nI h)), some (.int 2)]) (st1 := [.int 2, .int (nI h), .ref 26]) (μ1 := μ) (vc := True) rfl (by decide +kernel) rfl trivial ?_
  refine pm_callV2 mi_X4_numberOf (ix := 287) (b := 26) (ci := 4) (kc2 := 1) (ks2 := 6) (As := [.int (nI h), .int 2]) (rest := []) (c_X4_numberOf_2 (h := h) μ hR hG hh) cal_X4_numberOf lk9_287 (by decide +kernel) rfl (by decide +kernel) rfl rfl rfl rfl (Nat.le_of_ble_eq_true rfl) (by decide) (by decide) (fun _ _ h9 => h9.elim) ?_
  rintro _ _ ⟨rfl, h9⟩; rw [h9]; clear h9
  show pm_V _ _ _ _ 38 _ [.int (g (292 + 11 * h))] _
  exact pm_iret (ty := .int) rfl rfl (by decide) (by decide) (by decide +kernel) (⟨rfl, rfl⟩)
set_option maxHeartbeats 4000000 in
set_option maxRecDepth 100000 in
theorem c_X9_letter_3 {g : Nat → Int32} {h : Nat} (μ : pm_Mm) (hR : lr_Rel μ.1 1 g) (hG : lr_G g) (hh : h < lr_n g 289) : pm_CT mi_X9_letter [.ref 0, .int (nI h), .int 3] μ (fun v μ2 => v = some (.int (g (293 + 11 * h))) ∧ μ2 = μ) pm_NX := by
  refine pm_CT_of (lo := [some (.ref 0), some (.int (nI h)), some (.int 3)]) (by decide +kernel) rfl rfl (by intro v hv; simp at hv; rcases hv with rfl | rfl | rfl <;> rfl) (Nat.le_of_ble_eq_true rfl) rfl ?_
  have hm1 := lr_mh hG; have hm2 := lr_mw hG; have hm3 := lr_mp hG; have hm4 := lr_mr hG; have hm5 := lr_ma hG; have hm6 := lr_ml hG
  refine pm_bl [(.aload_n 0, 1, 0, 0, 0), (.iload_n 1, 1, 1, 0, 0)] (pc1 := 2) (lo1 := [some (.ref 0), some (.int (nI h)), some (.int 3)]) (st1 := [.int (nI h), .ref 0]) (μ1 := μ) (vc := True) rfl (by decide +kernel) rfl trivial ?_
  refine pm_callV2 mi_X9_requireLetter (ix := 282) (b := 0) (ci := 9) (kc2 := 1) (ks2 := 6) (As := [.int (nI h)]) (rest := []) (c_X9_requireLetter (nI h) μ (by first | exact hR | exact hR1) hG (lr_be_1 hh (by omega))) cal_X9_requireLetter lk9_282 (by decide +kernel) rfl (by decide +kernel) rfl rfl rfl rfl (Nat.le_of_ble_eq_true rfl) (by decide) (by decide) (fun _ _ h9 => h9.elim) ?_
  rintro _ _ ⟨rfl, h9⟩; rw [h9]; clear h9
  show pm_V _ _ _ _ 5 _ [] _
  refine pm_bl [(.iload_n 2, 1, 2, 0, 0), (.iconst 0, 1, 0, 0, 0), (.bipush 10, 2, 0, 0, 10)] (pc1 := 9) (lo1 := [some (.ref 0), some (.int (nI h)), some (.int 3)]) (st1 := [.int 10, .int 0, .int 3]) (μ1 := μ) (vc := True) rfl (by decide +kernel) rfl trivial ?_
  refine pm_callS2 mi_X9_isBetween (ix := 102) (kc2 := 1) (ks2 := 6) (As := [.int 3, .int 0, .int 10]) (rest := []) (c_X9_isBetween 3 0 10 μ) cal_X9_isBetween lk9_102 (by decide +kernel) rfl (by decide +kernel) rfl rfl (Nat.le_of_ble_eq_true rfl) (by decide) (by decide) (fun _ _ h9 => h9.elim) ?_
  rintro _ _ ⟨rfl, h9⟩; rw [h9]; clear h9
  show pm_V _ _ _ _ 12 _ [.int (lr_b (lr_in 3 0 10))] _
  refine pm_ifb_ne (off := 14) 26 (by decide +kernel) (by decide) (fun (h12 : (lr_in 3 0 10) = true) => ?_) (fun (h9 : (lr_in 3 0 10) = false) => absurd (h9.symm.trans (show lr_in 3 0 10 = true by decide)) (by decide))
  refine pm_bl [(.aload_n 0, 1, 0, 0, 0), (.getfield 10, 3, 9, 0, 0), (.getfield 235, 3, 5, 5, 0), (.iload_n 1, 1, 1, 0, 0), (.iload_n 2, 1, 2, 0, 0)] (pc1 := 35) (lo1 := [some (.ref 0), some (.int (nI h)), some (.int 3)]) (st1 := [.int 3, .int (nI h), .ref 26]) (μ1 := μ) (vc := True) rfl (by decide +kernel) rfl trivial ?_
  refine pm_callV2 mi_X4_numberOf (ix := 287) (b := 26) (ci := 4) (kc2 := 1) (ks2 := 6) (As := [.int (nI h), .int 3]) (rest := []) (c_X4_numberOf_3 (h := h) μ hR hG hh) cal_X4_numberOf lk9_287 (by decide +kernel) rfl (by decide +kernel) rfl rfl rfl rfl (Nat.le_of_ble_eq_true rfl) (by decide) (by decide) (fun _ _ h9 => h9.elim) ?_
  rintro _ _ ⟨rfl, h9⟩; rw [h9]; clear h9
  show pm_V _ _ _ _ 38 _ [.int (g (293 + 11 * h))] _
  exact pm_iret (ty := .int) rfl rfl (by decide) (by decide) (by decide +kernel) (⟨rfl, rfl⟩)
set_option maxHeartbeats 4000000 in
set_option maxRecDepth 100000 in
theorem c_X9_letter_4 {g : Nat → Int32} {h : Nat} (μ : pm_Mm) (hR : lr_Rel μ.1 1 g) (hG : lr_G g) (hh : h < lr_n g 289) : pm_CT mi_X9_letter [.ref 0, .int (nI h), .int 4] μ (fun v μ2 => v = some (.int (g (294 + 11 * h))) ∧ μ2 = μ) pm_NX := by
  refine pm_CT_of (lo := [some (.ref 0), some (.int (nI h)), some (.int 4)]) (by decide +kernel) rfl rfl (by intro v hv; simp at hv; rcases hv with rfl | rfl | rfl <;> rfl) (Nat.le_of_ble_eq_true rfl) rfl ?_
  have hm1 := lr_mh hG; have hm2 := lr_mw hG; have hm3 := lr_mp hG; have hm4 := lr_mr hG; have hm5 := lr_ma hG; have hm6 := lr_ml hG
  refine pm_bl [(.aload_n 0, 1, 0, 0, 0), (.iload_n 1, 1, 1, 0, 0)] (pc1 := 2) (lo1 := [some (.ref 0), some (.int (nI h)), some (.int 4)]) (st1 := [.int (nI h), .ref 0]) (μ1 := μ) (vc := True) rfl (by decide +kernel) rfl trivial ?_
  refine pm_callV2 mi_X9_requireLetter (ix := 282) (b := 0) (ci := 9) (kc2 := 1) (ks2 := 6) (As := [.int (nI h)]) (rest := []) (c_X9_requireLetter (nI h) μ (by first | exact hR | exact hR1) hG (lr_be_1 hh (by omega))) cal_X9_requireLetter lk9_282 (by decide +kernel) rfl (by decide +kernel) rfl rfl rfl rfl (Nat.le_of_ble_eq_true rfl) (by decide) (by decide) (fun _ _ h9 => h9.elim) ?_
  rintro _ _ ⟨rfl, h9⟩; rw [h9]; clear h9
  show pm_V _ _ _ _ 5 _ [] _
  refine pm_bl [(.iload_n 2, 1, 2, 0, 0), (.iconst 0, 1, 0, 0, 0), (.bipush 10, 2, 0, 0, 10)] (pc1 := 9) (lo1 := [some (.ref 0), some (.int (nI h)), some (.int 4)]) (st1 := [.int 10, .int 0, .int 4]) (μ1 := μ) (vc := True) rfl (by decide +kernel) rfl trivial ?_
  refine pm_callS2 mi_X9_isBetween (ix := 102) (kc2 := 1) (ks2 := 6) (As := [.int 4, .int 0, .int 10]) (rest := []) (c_X9_isBetween 4 0 10 μ) cal_X9_isBetween lk9_102 (by decide +kernel) rfl (by decide +kernel) rfl rfl (Nat.le_of_ble_eq_true rfl) (by decide) (by decide) (fun _ _ h9 => h9.elim) ?_
  rintro _ _ ⟨rfl, h9⟩; rw [h9]; clear h9
  show pm_V _ _ _ _ 12 _ [.int (lr_b (lr_in 4 0 10))] _
  refine pm_ifb_ne (off := 14) 26 (by decide +kernel) (by decide) (fun (h12 : (lr_in 4 0 10) = true) => ?_) (fun (h9 : (lr_in 4 0 10) = false) => absurd (h9.symm.trans (show lr_in 4 0 10 = true by decide)) (by decide))
  refine pm_bl [(.aload_n 0, 1, 0, 0, 0), (.getfield 10, 3, 9, 0, 0), (.getfield 235, 3, 5, 5, 0), (.iload_n 1, 1, 1, 0, 0), (.iload_n 2, 1, 2, 0, 0)] (pc1 := 35) (lo1 := [some (.ref 0), some (.int (nI h)), some (.int 4)]) (st1 := [.int 4, .int (nI h), .ref 26]) (μ1 := μ) (vc := True) rfl (by decide +kernel) rfl trivial ?_
  refine pm_callV2 mi_X4_numberOf (ix := 287) (b := 26) (ci := 4) (kc2 := 1) (ks2 := 6) (As := [.int (nI h), .int 4]) (rest := []) (c_X4_numberOf_4 (h := h) μ hR hG hh) cal_X4_numberOf lk9_287 (by decide +kernel) rfl (by decide +kernel) rfl rfl rfl rfl (Nat.le_of_ble_eq_true rfl) (by decide) (by decide) (fun _ _ h9 => h9.elim) ?_
  rintro _ _ ⟨rfl, h9⟩; rw [h9]; clear h9
  show pm_V _ _ _ _ 38 _ [.int (g (294 + 11 * h))] _
  exact pm_iret (ty := .int) rfl rfl (by decide) (by decide) (by decide +kernel) (⟨rfl, rfl⟩)
set_option maxHeartbeats 4000000 in
set_option maxRecDepth 100000 in
theorem c_X9_letter_5 {g : Nat → Int32} {h : Nat} (μ : pm_Mm) (hR : lr_Rel μ.1 1 g) (hG : lr_G g) (hh : h < lr_n g 289) : pm_CT mi_X9_letter [.ref 0, .int (nI h), .int 5] μ (fun v μ2 => v = some (.int (g (295 + 11 * h))) ∧ μ2 = μ) pm_NX := by
  refine pm_CT_of (lo := [some (.ref 0), some (.int (nI h)), some (.int 5)]) (by decide +kernel) rfl rfl (by intro v hv; simp at hv; rcases hv with rfl | rfl | rfl <;> rfl) (Nat.le_of_ble_eq_true rfl) rfl ?_
  have hm1 := lr_mh hG; have hm2 := lr_mw hG; have hm3 := lr_mp hG; have hm4 := lr_mr hG; have hm5 := lr_ma hG; have hm6 := lr_ml hG
  refine pm_bl [(.aload_n 0, 1, 0, 0, 0), (.iload_n 1, 1, 1, 0, 0)] (pc1 := 2) (lo1 := [some (.ref 0), some (.int (nI h)), some (.int 5)]) (st1 := [.int (nI h), .ref 0]) (μ1 := μ) (vc := True) rfl (by decide +kernel) rfl trivial ?_
  refine pm_callV2 mi_X9_requireLetter (ix := 282) (b := 0) (ci := 9) (kc2 := 1) (ks2 := 6) (As := [.int (nI h)]) (rest := []) (c_X9_requireLetter (nI h) μ (by first | exact hR | exact hR1) hG (lr_be_1 hh (by omega))) cal_X9_requireLetter lk9_282 (by decide +kernel) rfl (by decide +kernel) rfl rfl rfl rfl (Nat.le_of_ble_eq_true rfl) (by decide) (by decide) (fun _ _ h9 => h9.elim) ?_
  rintro _ _ ⟨rfl, h9⟩; rw [h9]; clear h9
  show pm_V _ _ _ _ 5 _ [] _
  refine pm_bl [(.iload_n 2, 1, 2, 0, 0), (.iconst 0, 1, 0, 0, 0), (.bipush 10, 2, 0, 0, 10)] (pc1 := 9) (lo1 := [some (.ref 0), some (.int (nI h)), some (.int 5)]) (st1 := [.int 10, .int 0, .int 5]) (μ1 := μ) (vc := True) rfl (by decide +kernel) rfl trivial ?_
  refine pm_callS2 mi_X9_isBetween (ix := 102) (kc2 := 1) (ks2 := 6) (As := [.int 5, .int 0, .int 10]) (rest := []) (c_X9_isBetween 5 0 10 μ) cal_X9_isBetween lk9_102 (by decide +kernel) rfl (by decide +kernel) rfl rfl (Nat.le_of_ble_eq_true rfl) (by decide) (by decide) (fun _ _ h9 => h9.elim) ?_
  rintro _ _ ⟨rfl, h9⟩; rw [h9]; clear h9
  show pm_V _ _ _ _ 12 _ [.int (lr_b (lr_in 5 0 10))] _
  refine pm_ifb_ne (off := 14) 26 (by decide +kernel) (by decide) (fun (h12 : (lr_in 5 0 10) = true) => ?_) (fun (h9 : (lr_in 5 0 10) = false) => absurd (h9.symm.trans (show lr_in 5 0 10 = true by decide)) (by decide))
  refine pm_bl [(.aload_n 0, 1, 0, 0, 0), (.getfield 10, 3, 9, 0, 0), (.getfield 235, 3, 5, 5, 0), (.iload_n 1, 1, 1, 0, 0), (.iload_n 2, 1, 2, 0, 0)] (pc1 := 35) (lo1 := [some (.ref 0), some (.int (nI h)), some (.int 5)]) (st1 := [.int 5, .int (nI h), .ref 26]) (μ1 := μ) (vc := True) rfl (by decide +kernel) rfl trivial ?_
  refine pm_callV2 mi_X4_numberOf (ix := 287) (b := 26) (ci := 4) (kc2 := 1) (ks2 := 6) (As := [.int (nI h), .int 5]) (rest := []) (c_X4_numberOf_5 (h := h) μ hR hG hh) cal_X4_numberOf lk9_287 (by decide +kernel) rfl (by decide +kernel) rfl rfl rfl rfl (Nat.le_of_ble_eq_true rfl) (by decide) (by decide) (fun _ _ h9 => h9.elim) ?_
  rintro _ _ ⟨rfl, h9⟩; rw [h9]; clear h9
  show pm_V _ _ _ _ 38 _ [.int (g (295 + 11 * h))] _
  exact pm_iret (ty := .int) rfl rfl (by decide) (by decide) (by decide +kernel) (⟨rfl, rfl⟩)
set_option maxHeartbeats 4000000 in
set_option maxRecDepth 100000 in
theorem c_X9_letter_6 {g : Nat → Int32} {h : Nat} (μ : pm_Mm) (hR : lr_Rel μ.1 1 g) (hG : lr_G g) (hh : h < lr_n g 289) : pm_CT mi_X9_letter [.ref 0, .int (nI h), .int 6] μ (fun v μ2 => v = some (.int (g (296 + 11 * h))) ∧ μ2 = μ) pm_NX := by
  refine pm_CT_of (lo := [some (.ref 0), some (.int (nI h)), some (.int 6)]) (by decide +kernel) rfl rfl (by intro v hv; simp at hv; rcases hv with rfl | rfl | rfl <;> rfl) (Nat.le_of_ble_eq_true rfl) rfl ?_
  have hm1 := lr_mh hG; have hm2 := lr_mw hG; have hm3 := lr_mp hG; have hm4 := lr_mr hG; have hm5 := lr_ma hG; have hm6 := lr_ml hG
  refine pm_bl [(.aload_n 0, 1, 0, 0, 0), (.iload_n 1, 1, 1, 0, 0)] (pc1 := 2) (lo1 := [some (.ref 0), some (.int (nI h)), some (.int 6)]) (st1 := [.int (nI h), .ref 0]) (μ1 := μ) (vc := True) rfl (by decide +kernel) rfl trivial ?_
  refine pm_callV2 mi_X9_requireLetter (ix := 282) (b := 0) (ci := 9) (kc2 := 1) (ks2 := 6) (As := [.int (nI h)]) (rest := []) (c_X9_requireLetter (nI h) μ (by first | exact hR | exact hR1) hG (lr_be_1 hh (by omega))) cal_X9_requireLetter lk9_282 (by decide +kernel) rfl (by decide +kernel) rfl rfl rfl rfl (Nat.le_of_ble_eq_true rfl) (by decide) (by decide) (fun _ _ h9 => h9.elim) ?_
  rintro _ _ ⟨rfl, h9⟩; rw [h9]; clear h9
  show pm_V _ _ _ _ 5 _ [] _
  refine pm_bl [(.iload_n 2, 1, 2, 0, 0), (.iconst 0, 1, 0, 0, 0), (.bipush 10, 2, 0, 0, 10)] (pc1 := 9) (lo1 := [some (.ref 0), some (.int (nI h)), some (.int 6)]) (st1 := [.int 10, .int 0, .int 6]) (μ1 := μ) (vc := True) rfl (by decide +kernel) rfl trivial ?_
  refine pm_callS2 mi_X9_isBetween (ix := 102) (kc2 := 1) (ks2 := 6) (As := [.int 6, .int 0, .int 10]) (rest := []) (c_X9_isBetween 6 0 10 μ) cal_X9_isBetween lk9_102 (by decide +kernel) rfl (by decide +kernel) rfl rfl (Nat.le_of_ble_eq_true rfl) (by decide) (by decide) (fun _ _ h9 => h9.elim) ?_
  rintro _ _ ⟨rfl, h9⟩; rw [h9]; clear h9
  show pm_V _ _ _ _ 12 _ [.int (lr_b (lr_in 6 0 10))] _
  refine pm_ifb_ne (off := 14) 26 (by decide +kernel) (by decide) (fun (h12 : (lr_in 6 0 10) = true) => ?_) (fun (h9 : (lr_in 6 0 10) = false) => absurd (h9.symm.trans (show lr_in 6 0 10 = true by decide)) (by decide))
  refine pm_bl [(.aload_n 0, 1, 0, 0, 0), (.getfield 10, 3, 9, 0, 0), (.getfield 235, 3, 5, 5, 0), (.iload_n 1, 1, 1, 0, 0), (.iload_n 2, 1, 2, 0, 0)] (pc1 := 35) (lo1 := [some (.ref 0), some (.int (nI h)), some (.int 6)]) (st1 := [.int 6, .int (nI h), .ref 26]) (μ1 := μ) (vc := True) rfl (by decide +kernel) rfl trivial ?_
  refine pm_callV2 mi_X4_numberOf (ix := 287) (b := 26) (ci := 4) (kc2 := 1) (ks2 := 6) (As := [.int (nI h), .int 6]) (rest := []) (c_X4_numberOf_6 (h := h) μ hR hG hh) cal_X4_numberOf lk9_287 (by decide +kernel) rfl (by decide +kernel) rfl rfl rfl rfl (Nat.le_of_ble_eq_true rfl) (by decide) (by decide) (fun _ _ h9 => h9.elim) ?_
  rintro _ _ ⟨rfl, h9⟩; rw [h9]; clear h9
  show pm_V _ _ _ _ 38 _ [.int (g (296 + 11 * h))] _
  exact pm_iret (ty := .int) rfl rfl (by decide) (by decide) (by decide +kernel) (⟨rfl, rfl⟩)
set_option maxHeartbeats 4000000 in
set_option maxRecDepth 100000 in
theorem c_X9_letter_7 {g : Nat → Int32} {h : Nat} (μ : pm_Mm) (hR : lr_Rel μ.1 1 g) (hG : lr_G g) (hh : h < lr_n g 289) : pm_CT mi_X9_letter [.ref 0, .int (nI h), .int 7] μ (fun v μ2 => v = some (.int (g (297 + 11 * h))) ∧ μ2 = μ) pm_NX := by
  refine pm_CT_of (lo := [some (.ref 0), some (.int (nI h)), some (.int 7)]) (by decide +kernel) rfl rfl (by intro v hv; simp at hv; rcases hv with rfl | rfl | rfl <;> rfl) (Nat.le_of_ble_eq_true rfl) rfl ?_
  have hm1 := lr_mh hG; have hm2 := lr_mw hG; have hm3 := lr_mp hG; have hm4 := lr_mr hG; have hm5 := lr_ma hG; have hm6 := lr_ml hG
  refine pm_bl [(.aload_n 0, 1, 0, 0, 0), (.iload_n 1, 1, 1, 0, 0)] (pc1 := 2) (lo1 := [some (.ref 0), some (.int (nI h)), some (.int 7)]) (st1 := [.int (nI h), .ref 0]) (μ1 := μ) (vc := True) rfl (by decide +kernel) rfl trivial ?_
  refine pm_callV2 mi_X9_requireLetter (ix := 282) (b := 0) (ci := 9) (kc2 := 1) (ks2 := 6) (As := [.int (nI h)]) (rest := []) (c_X9_requireLetter (nI h) μ (by first | exact hR | exact hR1) hG (lr_be_1 hh (by omega))) cal_X9_requireLetter lk9_282 (by decide +kernel) rfl (by decide +kernel) rfl rfl rfl rfl (Nat.le_of_ble_eq_true rfl) (by decide) (by decide) (fun _ _ h9 => h9.elim) ?_
  rintro _ _ ⟨rfl, h9⟩; rw [h9]; clear h9
  show pm_V _ _ _ _ 5 _ [] _
  refine pm_bl [(.iload_n 2, 1, 2, 0, 0), (.iconst 0, 1, 0, 0, 0), (.bipush 10, 2, 0, 0, 10)] (pc1 := 9) (lo1 := [some (.ref 0), some (.int (nI h)), some (.int 7)]) (st1 := [.int 10, .int 0, .int 7]) (μ1 := μ) (vc := True) rfl (by decide +kernel) rfl trivial ?_
  refine pm_callS2 mi_X9_isBetween (ix := 102) (kc2 := 1) (ks2 := 6) (As := [.int 7, .int 0, .int 10]) (rest := []) (c_X9_isBetween 7 0 10 μ) cal_X9_isBetween lk9_102 (by decide +kernel) rfl (by decide +kernel) rfl rfl (Nat.le_of_ble_eq_true rfl) (by decide) (by decide) (fun _ _ h9 => h9.elim) ?_
  rintro _ _ ⟨rfl, h9⟩; rw [h9]; clear h9
  show pm_V _ _ _ _ 12 _ [.int (lr_b (lr_in 7 0 10))] _
  refine pm_ifb_ne (off := 14) 26 (by decide +kernel) (by decide) (fun (h12 : (lr_in 7 0 10) = true) => ?_) (fun (h9 : (lr_in 7 0 10) = false) => absurd (h9.symm.trans (show lr_in 7 0 10 = true by decide)) (by decide))
  refine pm_bl [(.aload_n 0, 1, 0, 0, 0), (.getfield 10, 3, 9, 0, 0), (.getfield 235, 3, 5, 5, 0), (.iload_n 1, 1, 1, 0, 0), (.iload_n 2, 1, 2, 0, 0)] (pc1 := 35) (lo1 := [some (.ref 0), some (.int (nI h)), some (.int 7)]) (st1 := [.int 7, .int (nI h), .ref 26]) (μ1 := μ) (vc := True) rfl (by decide +kernel) rfl trivial ?_
  refine pm_callV2 mi_X4_numberOf (ix := 287) (b := 26) (ci := 4) (kc2 := 1) (ks2 := 6) (As := [.int (nI h), .int 7]) (rest := []) (c_X4_numberOf_7 (h := h) μ hR hG hh) cal_X4_numberOf lk9_287 (by decide +kernel) rfl (by decide +kernel) rfl rfl rfl rfl (Nat.le_of_ble_eq_true rfl) (by decide) (by decide) (fun _ _ h9 => h9.elim) ?_
  rintro _ _ ⟨rfl, h9⟩; rw [h9]; clear h9
  show pm_V _ _ _ _ 38 _ [.int (g (297 + 11 * h))] _
  exact pm_iret (ty := .int) rfl rfl (by decide) (by decide) (by decide +kernel) (⟨rfl, rfl⟩)
set_option maxHeartbeats 4000000 in
set_option maxRecDepth 100000 in
theorem c_X9_letter_8 {g : Nat → Int32} {h : Nat} (μ : pm_Mm) (hR : lr_Rel μ.1 1 g) (hG : lr_G g) (hh : h < lr_n g 289) : pm_CT mi_X9_letter [.ref 0, .int (nI h), .int 8] μ (fun v μ2 => v = some (.int (g (298 + 11 * h))) ∧ μ2 = μ) pm_NX := by
  refine pm_CT_of (lo := [some (.ref 0), some (.int (nI h)), some (.int 8)]) (by decide +kernel) rfl rfl (by intro v hv; simp at hv; rcases hv with rfl | rfl | rfl <;> rfl) (Nat.le_of_ble_eq_true rfl) rfl ?_
  have hm1 := lr_mh hG; have hm2 := lr_mw hG; have hm3 := lr_mp hG; have hm4 := lr_mr hG; have hm5 := lr_ma hG; have hm6 := lr_ml hG
  refine pm_bl [(.aload_n 0, 1, 0, 0, 0), (.iload_n 1, 1, 1, 0, 0)] (pc1 := 2) (lo1 := [some (.ref 0), some (.int (nI h)), some (.int 8)]) (st1 := [.int (nI h), .ref 0]) (μ1 := μ) (vc := True) rfl (by decide +kernel) rfl trivial ?_
  refine pm_callV2 mi_X9_requireLetter (ix := 282) (b := 0) (ci := 9) (kc2 := 1) (ks2 := 6) (As := [.int (nI h)]) (rest := []) (c_X9_requireLetter (nI h) μ (by first | exact hR | exact hR1) hG (lr_be_1 hh (by omega))) cal_X9_requireLetter lk9_282 (by decide +kernel) rfl (by decide +kernel) rfl rfl rfl rfl (Nat.le_of_ble_eq_true rfl) (by decide) (by decide) (fun _ _ h9 => h9.elim) ?_
  rintro _ _ ⟨rfl, h9⟩; rw [h9]; clear h9
  show pm_V _ _ _ _ 5 _ [] _
  refine pm_bl [(.iload_n 2, 1, 2, 0, 0), (.iconst 0, 1, 0, 0, 0), (.bipush 10, 2, 0, 0, 10)] (pc1 := 9) (lo1 := [some (.ref 0), some (.int (nI h)), some (.int 8)]) (st1 := [.int 10, .int 0, .int 8]) (μ1 := μ) (vc := True) rfl (by decide +kernel) rfl trivial ?_
  refine pm_callS2 mi_X9_isBetween (ix := 102) (kc2 := 1) (ks2 := 6) (As := [.int 8, .int 0, .int 10]) (rest := []) (c_X9_isBetween 8 0 10 μ) cal_X9_isBetween lk9_102 (by decide +kernel) rfl (by decide +kernel) rfl rfl (Nat.le_of_ble_eq_true rfl) (by decide) (by decide) (fun _ _ h9 => h9.elim) ?_
  rintro _ _ ⟨rfl, h9⟩; rw [h9]; clear h9
  show pm_V _ _ _ _ 12 _ [.int (lr_b (lr_in 8 0 10))] _
  refine pm_ifb_ne (off := 14) 26 (by decide +kernel) (by decide) (fun (h12 : (lr_in 8 0 10) = true) => ?_) (fun (h9 : (lr_in 8 0 10) = false) => absurd (h9.symm.trans (show lr_in 8 0 10 = true by decide)) (by decide))
  refine pm_bl [(.aload_n 0, 1, 0, 0, 0), (.getfield 10, 3, 9, 0, 0), (.getfield 235, 3, 5, 5, 0), (.iload_n 1, 1, 1, 0, 0), (.iload_n 2, 1, 2, 0, 0)] (pc1 := 35) (lo1 := [some (.ref 0), some (.int (nI h)), some (.int 8)]) (st1 := [.int 8, .int (nI h), .ref 26]) (μ1 := μ) (vc := True) rfl (by decide +kernel) rfl trivial ?_
  refine pm_callV2 mi_X4_numberOf (ix := 287) (b := 26) (ci := 4) (kc2 := 1) (ks2 := 6) (As := [.int (nI h), .int 8]) (rest := []) (c_X4_numberOf_8 (h := h) μ hR hG hh) cal_X4_numberOf lk9_287 (by decide +kernel) rfl (by decide +kernel) rfl rfl rfl rfl (Nat.le_of_ble_eq_true rfl) (by decide) (by decide) (fun _ _ h9 => h9.elim) ?_
  rintro _ _ ⟨rfl, h9⟩; rw [h9]; clear h9
  show pm_V _ _ _ _ 38 _ [.int (g (298 + 11 * h))] _
  exact pm_iret (ty := .int) rfl rfl (by decide) (by decide) (by decide +kernel) (⟨rfl, rfl⟩)
set_option maxHeartbeats 4000000 in
set_option maxRecDepth 100000 in
theorem c_X9_letter_9 {g : Nat → Int32} {h : Nat} (μ : pm_Mm) (hR : lr_Rel μ.1 1 g) (hG : lr_G g) (hh : h < lr_n g 289) : pm_CT mi_X9_letter [.ref 0, .int (nI h), .int 9] μ (fun v μ2 => v = some (.int (g (299 + 11 * h))) ∧ μ2 = μ) pm_NX := by
  refine pm_CT_of (lo := [some (.ref 0), some (.int (nI h)), some (.int 9)]) (by decide +kernel) rfl rfl (by intro v hv; simp at hv; rcases hv with rfl | rfl | rfl <;> rfl) (Nat.le_of_ble_eq_true rfl) rfl ?_
  have hm1 := lr_mh hG; have hm2 := lr_mw hG; have hm3 := lr_mp hG; have hm4 := lr_mr hG; have hm5 := lr_ma hG; have hm6 := lr_ml hG
  refine pm_bl [(.aload_n 0, 1, 0, 0, 0), (.iload_n 1, 1, 1, 0, 0)] (pc1 := 2) (lo1 := [some (.ref 0), some (.int (nI h)), some (.int 9)]) (st1 := [.int (nI h), .ref 0]) (μ1 := μ) (vc := True) rfl (by decide +kernel) rfl trivial ?_
  refine pm_callV2 mi_X9_requireLetter (ix := 282) (b := 0) (ci := 9) (kc2 := 1) (ks2 := 6) (As := [.int (nI h)]) (rest := []) (c_X9_requireLetter (nI h) μ (by first | exact hR | exact hR1) hG (lr_be_1 hh (by omega))) cal_X9_requireLetter lk9_282 (by decide +kernel) rfl (by decide +kernel) rfl rfl rfl rfl (Nat.le_of_ble_eq_true rfl) (by decide) (by decide) (fun _ _ h9 => h9.elim) ?_
  rintro _ _ ⟨rfl, h9⟩; rw [h9]; clear h9
  show pm_V _ _ _ _ 5 _ [] _
  refine pm_bl [(.iload_n 2, 1, 2, 0, 0), (.iconst 0, 1, 0, 0, 0), (.bipush 10, 2, 0, 0, 10)] (pc1 := 9) (lo1 := [some (.ref 0), some (.int (nI h)), some (.int 9)]) (st1 := [.int 10, .int 0, .int 9]) (μ1 := μ) (vc := True) rfl (by decide +kernel) rfl trivial ?_
  refine pm_callS2 mi_X9_isBetween (ix := 102) (kc2 := 1) (ks2 := 6) (As := [.int 9, .int 0, .int 10]) (rest := []) (c_X9_isBetween 9 0 10 μ) cal_X9_isBetween lk9_102 (by decide +kernel) rfl (by decide +kernel) rfl rfl (Nat.le_of_ble_eq_true rfl) (by decide) (by decide) (fun _ _ h9 => h9.elim) ?_
  rintro _ _ ⟨rfl, h9⟩; rw [h9]; clear h9
  show pm_V _ _ _ _ 12 _ [.int (lr_b (lr_in 9 0 10))] _
  refine pm_ifb_ne (off := 14) 26 (by decide +kernel) (by decide) (fun (h12 : (lr_in 9 0 10) = true) => ?_) (fun (h9 : (lr_in 9 0 10) = false) => absurd (h9.symm.trans (show lr_in 9 0 10 = true by decide)) (by decide))
  refine pm_bl [(.aload_n 0, 1, 0, 0, 0), (.getfield 10, 3, 9, 0, 0), (.getfield 235, 3, 5, 5, 0), (.iload_n 1, 1, 1, 0, 0), (.iload_n 2, 1, 2, 0, 0)] (pc1 := 35) (lo1 := [some (.ref 0), some (.int (nI h)), some (.int 9)]) (st1 := [.int 9, .int (nI h), .ref 26]) (μ1 := μ) (vc := True) rfl (by decide +kernel) rfl trivial ?_
  refine pm_callV2 mi_X4_numberOf (ix := 287) (b := 26) (ci := 4) (kc2 := 1) (ks2 := 6) (As := [.int (nI h), .int 9]) (rest := []) (c_X4_numberOf_9 (h := h) μ hR hG hh) cal_X4_numberOf lk9_287 (by decide +kernel) rfl (by decide +kernel) rfl rfl rfl rfl (Nat.le_of_ble_eq_true rfl) (by decide) (by decide) (fun _ _ h9 => h9.elim) ?_
  rintro _ _ ⟨rfl, h9⟩; rw [h9]; clear h9
  show pm_V _ _ _ _ 38 _ [.int (g (299 + 11 * h))] _
  exact pm_iret (ty := .int) rfl rfl (by decide) (by decide) (by decide +kernel) (⟨rfl, rfl⟩)
set_option maxHeartbeats 4000000 in
set_option maxRecDepth 100000 in
theorem c_X9_letter_10 {g : Nat → Int32} {h : Nat} (μ : pm_Mm) (hR : lr_Rel μ.1 1 g) (hG : lr_G g) (hh : h < lr_n g 289) : pm_CT mi_X9_letter [.ref 0, .int (nI h), .int 10] μ (fun v μ2 => v = some (.int (g (300 + 11 * h))) ∧ μ2 = μ) pm_NX := by
  refine pm_CT_of (lo := [some (.ref 0), some (.int (nI h)), some (.int 10)]) (by decide +kernel) rfl rfl (by intro v hv; simp at hv; rcases hv with rfl | rfl | rfl <;> rfl) (Nat.le_of_ble_eq_true rfl) rfl ?_
  have hm1 := lr_mh hG; have hm2 := lr_mw hG; have hm3 := lr_mp hG; have hm4 := lr_mr hG; have hm5 := lr_ma hG; have hm6 := lr_ml hG
  refine pm_bl [(.aload_n 0, 1, 0, 0, 0), (.iload_n 1, 1, 1, 0, 0)] (pc1 := 2) (lo1 := [some (.ref 0), some (.int (nI h)), some (.int 10)]) (st1 := [.int (nI h), .ref 0]) (μ1 := μ) (vc := True) rfl (by decide +kernel) rfl trivial ?_
  refine pm_callV2 mi_X9_requireLetter (ix := 282) (b := 0) (ci := 9) (kc2 := 1) (ks2 := 6) (As := [.int (nI h)]) (rest := []) (c_X9_requireLetter (nI h) μ (by first | exact hR | exact hR1) hG (lr_be_1 hh (by omega))) cal_X9_requireLetter lk9_282 (by decide +kernel) rfl (by decide +kernel) rfl rfl rfl rfl (Nat.le_of_ble_eq_true rfl) (by decide) (by decide) (fun _ _ h9 => h9.elim) ?_
  rintro _ _ ⟨rfl, h9⟩; rw [h9]; clear h9
  show pm_V _ _ _ _ 5 _ [] _
  refine pm_bl [(.iload_n 2, 1, 2, 0, 0), (.iconst 0, 1, 0, 0, 0), (.bipush 10, 2, 0, 0, 10)] (pc1 := 9) (lo1 := [some (.ref 0), some (.int (nI h)), some (.int 10)]) (st1 := [.int 10, .int 0, .int 10]) (μ1 := μ) (vc := True) rfl (by decide +kernel) rfl trivial ?_
  refine pm_callS2 mi_X9_isBetween (ix := 102) (kc2 := 1) (ks2 := 6) (As := [.int 10, .int 0, .int 10]) (rest := []) (c_X9_isBetween 10 0 10 μ) cal_X9_isBetween lk9_102 (by decide +kernel) rfl (by decide +kernel) rfl rfl (Nat.le_of_ble_eq_true rfl) (by decide) (by decide) (fun _ _ h9 => h9.elim) ?_
  rintro _ _ ⟨rfl, h9⟩; rw [h9]; clear h9
  show pm_V _ _ _ _ 12 _ [.int (lr_b (lr_in 10 0 10))] _
  refine pm_ifb_ne (off := 14) 26 (by decide +kernel) (by decide) (fun (h12 : (lr_in 10 0 10) = true) => ?_) (fun (h9 : (lr_in 10 0 10) = false) => absurd (h9.symm.trans (show lr_in 10 0 10 = true by decide)) (by decide))
  refine pm_bl [(.aload_n 0, 1, 0, 0, 0), (.getfield 10, 3, 9, 0, 0), (.getfield 235, 3, 5, 5, 0), (.iload_n 1, 1, 1, 0, 0), (.iload_n 2, 1, 2, 0, 0)] (pc1 := 35) (lo1 := [some (.ref 0), some (.int (nI h)), some (.int 10)]) (st1 := [.int 10, .int (nI h), .ref 26]) (μ1 := μ) (vc := True) rfl (by decide +kernel) rfl trivial ?_
  refine pm_callV2 mi_X4_numberOf (ix := 287) (b := 26) (ci := 4) (kc2 := 1) (ks2 := 6) (As := [.int (nI h), .int 10]) (rest := []) (c_X4_numberOf_10 (h := h) μ hR hG hh) cal_X4_numberOf lk9_287 (by decide +kernel) rfl (by decide +kernel) rfl rfl rfl rfl (Nat.le_of_ble_eq_true rfl) (by decide) (by decide) (fun _ _ h9 => h9.elim) ?_
  rintro _ _ ⟨rfl, h9⟩; rw [h9]; clear h9
  show pm_V _ _ _ _ 38 _ [.int (g (300 + 11 * h))] _
  exact pm_iret (ty := .int) rfl rfl (by decide) (by decide) (by decide +kernel) (⟨rfl, rfl⟩)
set_option maxHeartbeats 4000000 in
set_option maxRecDepth 100000 in
theorem c_X9_delivered_no {g : Nat → Int32} {x : Int32} (μ : pm_Mm) (hR : lr_Rel μ.1 1 g) (hG : lr_G g) (hb : lr_be x (nI (lr_n g 1)) = false) : pm_CT mi_X9_delivered [.ref 0, .int x] μ (fun _ _ => False) (fun E μ2 => E = "java/util/NoSuchElementException" ∧ μ2 = μ) := by
  refine pm_CT_of (lo := [some (.ref 0), some (.int x)]) (by decide +kernel) rfl rfl (by intro v hv; simp at hv; rcases hv with rfl | rfl <;> rfl) (Nat.le_of_ble_eq_true rfl) rfl ?_
  have hm1 := lr_mh hG; have hm2 := lr_mw hG; have hm3 := lr_mp hG; have hm4 := lr_mr hG; have hm5 := lr_ma hG; have hm6 := lr_ml hG
  refine pm_bl [(.iload_n 1, 1, 1, 0, 0), (.aload_n 0, 1, 0, 0, 0), (.getfield 10, 3, 9, 0, 0), (.getfield 235, 3, 5, 5, 0), (.getfield 304, 3, 4, 1, 0)] (pc1 := 11) (lo1 := [some (.ref 0), some (.int x)]) (st1 := [.int (μ.1 26 1), .int x]) (μ1 := μ) (vc := True) rfl (by decide +kernel) rfl trivial ?_
  rw [lr_rD hR, lr_gD hG]
  refine pm_callS2 mi_X9_isBelow (ix := 130) (kc2 := 0) (ks2 := 0) (As := [.int x, .int (nI (lr_n g 1))]) (rest := []) (c_X9_isBelow x (nI (lr_n g 1)) μ) cal_X9_isBelow lk9_130 (by decide +kernel) rfl (by decide +kernel) rfl rfl (Nat.le_of_ble_eq_true rfl) (by decide) (by decide) (fun _ _ h9 => h9.elim) ?_
  rintro _ _ ⟨rfl, h9⟩; rw [h9]; clear h9
  show pm_V _ _ _ _ 14 _ [.int (lr_b (lr_be x (nI (lr_n g 1))))] _
  refine pm_ifb_ne (off := 14) 28 (by decide +kernel) (by decide) (fun (h9 : (lr_be x (nI (lr_n g 1))) = true) => absurd (hb.symm.trans h9) (by decide)) (fun (h14 : (lr_be x (nI (lr_n g 1))) = false) => ?_)
  exact pm_throwXW (is := 307) (tx := "there is no such delivery") pm_exNS rfl (by decide +kernel) rfl (by decide +kernel) (by decide +kernel) (by decide +kernel) (by decide +kernel) (by decide +kernel) (by decide) (by decide) (⟨rfl, rfl⟩)
set_option maxHeartbeats 4000000 in
set_option maxRecDepth 100000 in
theorem c_X9_delivered {g : Nat → Int32} {d i : Nat} (μ : pm_Mm) (hR : lr_Rel μ.1 1 g) (hG : lr_G g) (hdn : d < lr_n g 1) (hi : i < lr_n g 289) (hd : g (300 + 11 * i) = nI d) : pm_CT mi_X9_delivered [.ref 0, .int (nI d)] μ (fun v μ2 => v = some (.int (nI i)) ∧ μ2 = μ) pm_NX := by
  refine pm_CT_of (lo := [some (.ref 0), some (.int (nI d))]) (by decide +kernel) rfl rfl (by intro v hv; simp at hv; rcases hv with rfl | rfl <;> rfl) (Nat.le_of_ble_eq_true rfl) rfl ?_
  have hm1 := lr_mh hG; have hm2 := lr_mw hG; have hm3 := lr_mp hG; have hm4 := lr_mr hG; have hm5 := lr_ma hG; have hm6 := lr_ml hG
  have mD := lr_mD hG
  refine pm_bl [(.iload_n 1, 1, 1, 0, 0), (.aload_n 0, 1, 0, 0, 0), (.getfield 10, 3, 9, 0, 0), (.getfield 235, 3, 5, 5, 0), (.getfield 304, 3, 4, 1, 0)] (pc1 := 11) (lo1 := [some (.ref 0), some (.int (nI d))]) (st1 := [.int (μ.1 26 1), .int (nI d)]) (μ1 := μ) (vc := True) rfl (by decide +kernel) rfl trivial ?_
  rw [lr_rD hR, lr_gD hG]
  refine pm_callS2 mi_X9_isBelow (ix := 130) (kc2 := 0) (ks2 := 0) (As := [.int (nI d), .int (nI (lr_n g 1))]) (rest := []) (c_X9_isBelow (nI d) (nI (lr_n g 1)) μ) cal_X9_isBelow lk9_130 (by decide +kernel) rfl (by decide +kernel) rfl rfl (Nat.le_of_ble_eq_true rfl) (by decide) (by decide) (fun _ _ h9 => h9.elim) ?_
  rintro _ _ ⟨rfl, h9⟩; rw [h9]; clear h9
  show pm_V _ _ _ _ 14 _ [.int (lr_b (lr_be (nI d) (nI (lr_n g 1))))] _
  refine pm_ifb_ne (off := 14) 28 (by decide +kernel) (by decide) (fun (h14 : (lr_be (nI d) (nI (lr_n g 1))) = true) => ?_) (fun (h9 : (lr_be (nI d) (nI (lr_n g 1))) = false) => absurd (h9.symm.trans (lr_be_1 hdn (by omega))) (by decide))
  refine pm_bl [(.aload_n 0, 1, 0, 0, 0), (.getfield 10, 3, 9, 0, 0), (.getfield 235, 3, 5, 5, 0), (.getfield 309, 3, 4, 13, 0), (.iload_n 1, 1, 1, 0, 0), (.iaload, 1, 0, 0, 0)] (pc1 := 40) (lo1 := [some (.ref 0), some (.int (nI d))]) (st1 := [.int (μ.1 38 (nI d).toNatClampNeg)]) (μ1 := μ) (vc := vp_in (nI d) 30 ∧ True) rfl (by decide +kernel) rfl ⟨(vp_in_nI (by omega) (by omega)), trivial⟩ ?_
  first | rw [nI_clamp (n := d) (by omega), lr_rda hR hi hd (by omega)] | rw [lr_rda hR hi hd (by omega)]
  exact pm_iret (ty := .int) rfl rfl (by decide) (by decide) (by decide +kernel) (⟨rfl, rfl⟩)
set_option maxHeartbeats 4000000 in
set_option maxRecDepth 100000 in
theorem c_X9_daysLeft_no1 {g : Nat → Int32} {x : Int32} (μ : pm_Mm) (hR : lr_Rel μ.1 1 g) (hG : lr_G g) (hb : lr_be x (nI (lr_n g 289)) = false) : pm_CT mi_X9_daysLeft [.ref 0, .int x] μ (fun _ _ => False) (fun E μ2 => E = "java/lang/IndexOutOfBoundsException" ∧ μ2 = μ) := by
  refine pm_CT_of (lo := [some (.ref 0), some (.int x), none]) (by decide +kernel) rfl rfl (by intro v hv; simp at hv; rcases hv with rfl | rfl <;> rfl) (Nat.le_of_ble_eq_true rfl) rfl ?_
  have hm1 := lr_mh hG; have hm2 := lr_mw hG; have hm3 := lr_mp hG; have hm4 := lr_mr hG; have hm5 := lr_ma hG; have hm6 := lr_ml hG
  refine pm_bl [(.aload_n 0, 1, 0, 0, 0), (.iload_n 1, 1, 1, 0, 0)] (pc1 := 2) (lo1 := [some (.ref 0), some (.int x), none]) (st1 := [.int x, .ref 0]) (μ1 := μ) (vc := True) rfl (by decide +kernel) rfl trivial ?_
  refine pm_callV2 mi_X9_requireLetter (ix := 282) (b := 0) (ci := 9) (kc2 := 1) (ks2 := 6) (As := [.int x]) (rest := []) (c_X9_requireLetter_no x μ hR hG hb) cal_X9_requireLetter lk9_282 (by decide +kernel) rfl (by decide +kernel) rfl rfl rfl rfl (Nat.le_of_ble_eq_true rfl) (by decide) (by decide) (fun E μ9 h9 => h9) ?_
  rintro _ _ h9; exact h9.elim
set_option maxHeartbeats 4000000 in
set_option maxRecDepth 100000 in
theorem c_X9_daysLeft_no2 {g : Nat → Int32} {h : Nat} (μ : pm_Mm) (hR : lr_Rel μ.1 1 g) (hG : lr_G g) (hh : h < lr_n g 289) (hw : ¬ g (294 + 11 * h) = 0) : pm_CT mi_X9_daysLeft [.ref 0, .int (nI h)] μ (fun _ _ => False) (fun E μ2 => E = "java/lang/IllegalStateException" ∧ μ2 = μ) := by
  refine pm_CT_of (lo := [some (.ref 0), some (.int (nI h)), none]) (by decide +kernel) rfl rfl (by intro v hv; simp at hv; rcases hv with rfl | rfl <;> rfl) (Nat.le_of_ble_eq_true rfl) rfl ?_
  have hm1 := lr_mh hG; have hm2 := lr_mw hG; have hm3 := lr_mp hG; have hm4 := lr_mr hG; have hm5 := lr_ma hG; have hm6 := lr_ml hG
  refine pm_bl [(.aload_n 0, 1, 0, 0, 0), (.iload_n 1, 1, 1, 0, 0)] (pc1 := 2) (lo1 := [some (.ref 0), some (.int (nI h)), none]) (st1 := [.int (nI h), .ref 0]) (μ1 := μ) (vc := True) rfl (by decide +kernel) rfl trivial ?_
  refine pm_callV2 mi_X9_requireLetter (ix := 282) (b := 0) (ci := 9) (kc2 := 1) (ks2 := 6) (As := [.int (nI h)]) (rest := []) (c_X9_requireLetter (nI h) μ (by first | exact hR | exact hR1) hG (lr_be_1 hh (by omega))) cal_X9_requireLetter lk9_282 (by decide +kernel) rfl (by decide +kernel) rfl rfl rfl rfl (Nat.le_of_ble_eq_true rfl) (by decide) (by decide) (fun _ _ h9 => h9.elim) ?_
  rintro _ _ ⟨rfl, h9⟩; rw [h9]; clear h9
  show pm_V _ _ _ _ 5 _ [] _
  refine pm_bl [(.aload_n 0, 1, 0, 0, 0), (.getfield 10, 3, 9, 0, 0), (.getfield 235, 3, 5, 5, 0), (.getfield 312, 3, 4, 6, 0), (.iload_n 1, 1, 1, 0, 0), (.iaload, 1, 0, 0, 0)] (pc1 := 17) (lo1 := [some (.ref 0), some (.int (nI h)), none]) (st1 := [.int (μ.1 31 (nI h).toNatClampNeg)]) (μ1 := μ) (vc := vp_in (nI h) 30 ∧ True) rfl (by decide +kernel) rfl ⟨(vp_in_nI (by omega) (by omega)), trivial⟩ ?_
  first | rw [nI_clamp (n := h) (by omega), lr_rlst hR (i := h) hh] | rw [lr_rlst hR (i := h) hh]
  refine pm_if_eq (off := 14) 31 (by decide +kernel) (by decide) (fun (h9 : (g (294 + 11 * h)) = 0) => absurd h9 hw) (fun (h17 : ¬ ((g (294 + 11 * h)) = 0)) => ?_)
  exact pm_throwW (is := 315) (tx := "the letter does not wait") pm_exIS rfl (by decide +kernel) rfl (by decide +kernel) (by decide +kernel) (by decide +kernel) (by decide +kernel) (by decide +kernel) (by decide) (by decide) (⟨rfl, rfl⟩)
set_option maxHeartbeats 4000000 in
set_option maxRecDepth 100000 in
theorem c_X9_daysLeft_no3 {g : Nat → Int32} {h t : Nat} (μ : pm_Mm) (hR : lr_Rel μ.1 1 g) (hG : lr_G g) (hh : h < lr_n g 289) (hw : g (294 + 11 * h) = 0) (ht : g (297 + 11 * h) = nI t) (ht2 : t ≤ 2) (hs : lr_fcs g h (365 - lr_n g 0) 0 t = -1) : pm_CT mi_X9_daysLeft [.ref 0, .int (nI h)] μ (fun _ _ => False) (fun E μ2 => E = "java/util/NoSuchElementException" ∧ μ2 = μ) := by
  refine pm_CT_of (lo := [some (.ref 0), some (.int (nI h)), none]) (by decide +kernel) rfl rfl (by intro v hv; simp at hv; rcases hv with rfl | rfl <;> rfl) (Nat.le_of_ble_eq_true rfl) rfl ?_
  have hm1 := lr_mh hG; have hm2 := lr_mw hG; have hm3 := lr_mp hG; have hm4 := lr_mr hG; have hm5 := lr_ma hG; have hm6 := lr_ml hG
  refine pm_bl [(.aload_n 0, 1, 0, 0, 0), (.iload_n 1, 1, 1, 0, 0)] (pc1 := 2) (lo1 := [some (.ref 0), some (.int (nI h)), none]) (st1 := [.int (nI h), .ref 0]) (μ1 := μ) (vc := True) rfl (by decide +kernel) rfl trivial ?_
  refine pm_callV2 mi_X9_requireLetter (ix := 282) (b := 0) (ci := 9) (kc2 := 1) (ks2 := 6) (As := [.int (nI h)]) (rest := []) (c_X9_requireLetter (nI h) μ (by first | exact hR | exact hR1) hG (lr_be_1 hh (by omega))) cal_X9_requireLetter lk9_282 (by decide +kernel) rfl (by decide +kernel) rfl rfl rfl rfl (Nat.le_of_ble_eq_true rfl) (by decide) (by decide) (fun _ _ h9 => h9.elim) ?_
  rintro _ _ ⟨rfl, h9⟩; rw [h9]; clear h9
  show pm_V _ _ _ _ 5 _ [] _
  refine pm_bl [(.aload_n 0, 1, 0, 0, 0), (.getfield 10, 3, 9, 0, 0), (.getfield 235, 3, 5, 5, 0), (.getfield 312, 3, 4, 6, 0), (.iload_n 1, 1, 1, 0, 0), (.iaload, 1, 0, 0, 0)] (pc1 := 17) (lo1 := [some (.ref 0), some (.int (nI h)), none]) (st1 := [.int (μ.1 31 (nI h).toNatClampNeg)]) (μ1 := μ) (vc := vp_in (nI h) 30 ∧ True) rfl (by decide +kernel) rfl ⟨(vp_in_nI (by omega) (by omega)), trivial⟩ ?_
  first | rw [nI_clamp (n := h) (by omega), lr_rlst hR (i := h) hh] | rw [lr_rlst hR (i := h) hh]
  refine pm_if_eq (off := 14) 31 (by decide +kernel) (by decide) (fun (h17 : (g (294 + 11 * h)) = 0) => ?_) (fun (h9 : ¬ ((g (294 + 11 * h)) = 0)) => absurd hw h9)
  refine pm_bl [(.aload_n 0, 1, 0, 0, 0), (.getfield 10, 3, 9, 0, 0), (.iload_n 1, 1, 1, 0, 0)] (pc1 := 36) (lo1 := [some (.ref 0), some (.int (nI h)), none]) (st1 := [.int (nI h), .ref 1]) (μ1 := μ) (vc := True) rfl (by decide +kernel) rfl trivial ?_
  refine pm_callV2 mi_X5_forecast (ix := 317) (b := 1) (ci := 5) (kc2 := 1) (ks2 := 6) (As := [.int (nI h)]) (rest := []) (c_X5_forecast (l := h) (t := t) μ hR hG hh ht ht2) cal_X5_forecast lk9_317 (by decide +kernel) rfl (by decide +kernel) rfl rfl rfl rfl (Nat.le_of_ble_eq_true rfl) (by decide) (by decide) (fun _ _ h9 => h9.elim) ?_
  rintro _ _ ⟨rfl, h9⟩; rw [h9]; clear h9
  show pm_V _ _ _ _ 39 _ [.int (lr_fcs g h (365 - lr_n g 0) 0 t)] _
  refine pm_bl [(.istore_n 2, 1, 2, 0, 0), (.iload_n 2, 1, 2, 0, 0), (.iconst (-1), 1, 0, 0, (-1))] (pc1 := 42) (lo1 := [some (.ref 0), some (.int (nI h)), some (.int (lr_fcs g h (365 - lr_n g 0) 0 t))]) (st1 := [.int (-1), .int (lr_fcs g h (365 - lr_n g 0) 0 t)]) (μ1 := μ) (vc := True) rfl (by decide +kernel) rfl trivial ?_
  refine pm_icmp_ne (off := 14) 56 (by decide +kernel) (by decide) (fun (h9 : ¬ (lr_fcs g h (365 - lr_n g 0) 0 t) = (-1)) => absurd hs h9) (fun (h42 : (lr_fcs g h (365 - lr_n g 0) 0 t) = (-1)) => ?_)
  exact pm_throwXW (is := 320) (tx := "the letter still waits when day 365 is today") pm_exNS rfl (by decide +kernel) rfl (by decide +kernel) (by decide +kernel) (by decide +kernel) (by decide +kernel) (by decide +kernel) (by decide) (by decide) (⟨rfl, rfl⟩)
set_option maxHeartbeats 4000000 in
set_option maxRecDepth 100000 in
theorem c_X9_daysLeft {g : Nat → Int32} {h t : Nat} (μ : pm_Mm) (hR : lr_Rel μ.1 1 g) (hG : lr_G g) (hh : h < lr_n g 289) (hw : g (294 + 11 * h) = 0) (ht : g (297 + 11 * h) = nI t) (ht2 : t ≤ 2) (hs : ¬ lr_fcs g h (365 - lr_n g 0) 0 t = -1) : pm_CT mi_X9_daysLeft [.ref 0, .int (nI h)] μ (fun v μ2 => v = some (.int (lr_fcs g h (365 - lr_n g 0) 0 t)) ∧ μ2 = μ) pm_NX := by
  refine pm_CT_of (lo := [some (.ref 0), some (.int (nI h)), none]) (by decide +kernel) rfl rfl (by intro v hv; simp at hv; rcases hv with rfl | rfl <;> rfl) (Nat.le_of_ble_eq_true rfl) rfl ?_
  have hm1 := lr_mh hG; have hm2 := lr_mw hG; have hm3 := lr_mp hG; have hm4 := lr_mr hG; have hm5 := lr_ma hG; have hm6 := lr_ml hG
  refine pm_bl [(.aload_n 0, 1, 0, 0, 0), (.iload_n 1, 1, 1, 0, 0)] (pc1 := 2) (lo1 := [some (.ref 0), some (.int (nI h)), none]) (st1 := [.int (nI h), .ref 0]) (μ1 := μ) (vc := True) rfl (by decide +kernel) rfl trivial ?_
  refine pm_callV2 mi_X9_requireLetter (ix := 282) (b := 0) (ci := 9) (kc2 := 1) (ks2 := 6) (As := [.int (nI h)]) (rest := []) (c_X9_requireLetter (nI h) μ (by first | exact hR | exact hR1) hG (lr_be_1 hh (by omega))) cal_X9_requireLetter lk9_282 (by decide +kernel) rfl (by decide +kernel) rfl rfl rfl rfl (Nat.le_of_ble_eq_true rfl) (by decide) (by decide) (fun _ _ h9 => h9.elim) ?_
  rintro _ _ ⟨rfl, h9⟩; rw [h9]; clear h9
  show pm_V _ _ _ _ 5 _ [] _
  refine pm_bl [(.aload_n 0, 1, 0, 0, 0), (.getfield 10, 3, 9, 0, 0), (.getfield 235, 3, 5, 5, 0), (.getfield 312, 3, 4, 6, 0), (.iload_n 1, 1, 1, 0, 0), (.iaload, 1, 0, 0, 0)] (pc1 := 17) (lo1 := [some (.ref 0), some (.int (nI h)), none]) (st1 := [.int (μ.1 31 (nI h).toNatClampNeg)]) (μ1 := μ) (vc := vp_in (nI h) 30 ∧ True) rfl (by decide +kernel) rfl ⟨(vp_in_nI (by omega) (by omega)), trivial⟩ ?_
  first | rw [nI_clamp (n := h) (by omega), lr_rlst hR (i := h) hh] | rw [lr_rlst hR (i := h) hh]
  refine pm_if_eq (off := 14) 31 (by decide +kernel) (by decide) (fun (h17 : (g (294 + 11 * h)) = 0) => ?_) (fun (h9 : ¬ ((g (294 + 11 * h)) = 0)) => absurd hw h9)
  refine pm_bl [(.aload_n 0, 1, 0, 0, 0), (.getfield 10, 3, 9, 0, 0), (.iload_n 1, 1, 1, 0, 0)] (pc1 := 36) (lo1 := [some (.ref 0), some (.int (nI h)), none]) (st1 := [.int (nI h), .ref 1]) (μ1 := μ) (vc := True) rfl (by decide +kernel) rfl trivial ?_
  refine pm_callV2 mi_X5_forecast (ix := 317) (b := 1) (ci := 5) (kc2 := 1) (ks2 := 6) (As := [.int (nI h)]) (rest := []) (c_X5_forecast (l := h) (t := t) μ hR hG hh ht ht2) cal_X5_forecast lk9_317 (by decide +kernel) rfl (by decide +kernel) rfl rfl rfl rfl (Nat.le_of_ble_eq_true rfl) (by decide) (by decide) (fun _ _ h9 => h9.elim) ?_
  rintro _ _ ⟨rfl, h9⟩; rw [h9]; clear h9
  show pm_V _ _ _ _ 39 _ [.int (lr_fcs g h (365 - lr_n g 0) 0 t)] _
  refine pm_bl [(.istore_n 2, 1, 2, 0, 0), (.iload_n 2, 1, 2, 0, 0), (.iconst (-1), 1, 0, 0, (-1))] (pc1 := 42) (lo1 := [some (.ref 0), some (.int (nI h)), some (.int (lr_fcs g h (365 - lr_n g 0) 0 t))]) (st1 := [.int (-1), .int (lr_fcs g h (365 - lr_n g 0) 0 t)]) (μ1 := μ) (vc := True) rfl (by decide +kernel) rfl trivial ?_
  refine pm_icmp_ne (off := 14) 56 (by decide +kernel) (by decide) (fun (h42 : ¬ (lr_fcs g h (365 - lr_n g 0) 0 t) = (-1)) => ?_) (fun (h9 : (lr_fcs g h (365 - lr_n g 0) 0 t) = (-1)) => absurd h9 hs)
  refine pm_bl [(.iload_n 2, 1, 2, 0, 0)] (pc1 := 57) (lo1 := [some (.ref 0), some (.int (nI h)), some (.int (lr_fcs g h (365 - lr_n g 0) 0 t))]) (st1 := [.int (lr_fcs g h (365 - lr_n g 0) 0 t)]) (μ1 := μ) (vc := True) rfl (by decide +kernel) rfl trivial ?_
  exact pm_iret (ty := .int) rfl rfl (by decide) (by decide) (by decide +kernel) (⟨rfl, rfl⟩)
set_option maxHeartbeats 4000000 in
set_option maxRecDepth 100000 in
theorem c_X9_pass_no1 {g : Nat → Int32} {y : Int32} (μ : pm_Mm) (hR : lr_Rel μ.1 1 g) (hG : lr_G g) (hl : lr_in y 1 60 = false) : pm_CT mi_X9_pass [.ref 0, .int y] μ (fun _ _ => False) (fun E μ2 => E = "java/lang/IllegalArgumentException" ∧ μ2 = μ) := by
  refine pm_CT_of (lo := [some (.ref 0), some (.int y), none, none]) (by decide +kernel) rfl rfl (by intro v hv; simp at hv; rcases hv with rfl | rfl <;> rfl) (Nat.le_of_ble_eq_true rfl) rfl ?_
  have hm1 := lr_mh hG; have hm2 := lr_mw hG; have hm3 := lr_mp hG; have hm4 := lr_mr hG; have hm5 := lr_ma hG; have hm6 := lr_ml hG
  refine pm_bl [(.iload_n 1, 1, 1, 0, 0), (.iconst 1, 1, 0, 0, 1), (.bipush 60, 2, 0, 0, 60)] (pc1 := 4) (lo1 := [some (.ref 0), some (.int y), none, none]) (st1 := [.int 60, .int 1, .int y]) (μ1 := μ) (vc := True) rfl (by decide +kernel) rfl trivial ?_
  refine pm_callS2 mi_X9_isBetween (ix := 102) (kc2 := 0) (ks2 := 0) (As := [.int y, .int 1, .int 60]) (rest := []) (c_X9_isBetween y 1 60 μ) cal_X9_isBetween lk9_102 (by decide +kernel) rfl (by decide +kernel) rfl rfl (Nat.le_of_ble_eq_true rfl) (by decide) (by decide) (fun _ _ h9 => h9.elim) ?_
  rintro _ _ ⟨rfl, h9⟩; rw [h9]; clear h9
  show pm_V _ _ _ _ 7 _ [.int (lr_b (lr_in y 1 60))] _
  refine pm_ifb_eq (off := 18) 25 (by decide +kernel) (by decide) (fun (h7 : (lr_in y 1 60) = false) => ?_) (fun (h9 : (lr_in y 1 60) = true) => absurd (hl.symm.trans h9) (by decide))
  exact pm_throwW (is := 322) (tx := "so many days cannot go by") pm_exIA rfl (by decide +kernel) rfl (by decide +kernel) (by decide +kernel) (by decide +kernel) (by decide +kernel) (by decide +kernel) (by decide) (by decide) (⟨rfl, rfl⟩)
set_option maxHeartbeats 4000000 in
set_option maxRecDepth 100000 in
theorem c_X9_pass_no1b {g : Nat → Int32} {y : Int32} (μ : pm_Mm) (hR : lr_Rel μ.1 1 g) (hG : lr_G g) (hl : lr_in y 1 60 = true) (hy : 365 < nI (lr_n g 0) + y) : pm_CT mi_X9_pass [.ref 0, .int y] μ (fun _ _ => False) (fun E μ2 => E = "java/lang/IllegalArgumentException" ∧ μ2 = μ) := by
  refine pm_CT_of (lo := [some (.ref 0), some (.int y), none, none]) (by decide +kernel) rfl rfl (by intro v hv; simp at hv; rcases hv with rfl | rfl <;> rfl) (Nat.le_of_ble_eq_true rfl) rfl ?_
  have hm1 := lr_mh hG; have hm2 := lr_mw hG; have hm3 := lr_mp hG; have hm4 := lr_mr hG; have hm5 := lr_ma hG; have hm6 := lr_ml hG
  refine pm_bl [(.iload_n 1, 1, 1, 0, 0), (.iconst 1, 1, 0, 0, 1), (.bipush 60, 2, 0, 0, 60)] (pc1 := 4) (lo1 := [some (.ref 0), some (.int y), none, none]) (st1 := [.int 60, .int 1, .int y]) (μ1 := μ) (vc := True) rfl (by decide +kernel) rfl trivial ?_
  refine pm_callS2 mi_X9_isBetween (ix := 102) (kc2 := 0) (ks2 := 0) (As := [.int y, .int 1, .int 60]) (rest := []) (c_X9_isBetween y 1 60 μ) cal_X9_isBetween lk9_102 (by decide +kernel) rfl (by decide +kernel) rfl rfl (Nat.le_of_ble_eq_true rfl) (by decide) (by decide) (fun _ _ h9 => h9.elim) ?_
  rintro _ _ ⟨rfl, h9⟩; rw [h9]; clear h9
  show pm_V _ _ _ _ 7 _ [.int (lr_b (lr_in y 1 60))] _
  refine pm_ifb_eq (off := 18) 25 (by decide +kernel) (by decide) (fun (h9 : (lr_in y 1 60) = false) => absurd (hl.symm.trans h9) (by decide)) (fun (h7 : (lr_in y 1 60) = true) => ?_)
  refine pm_bl [(.aload_n 0, 1, 0, 0, 0), (.getfield 10, 3, 9, 0, 0), (.getfield 242, 3, 5, 6, 0)] (pc1 := 17) (lo1 := [some (.ref 0), some (.int y), none, none]) (st1 := [.int (μ.1 1 6)]) (μ1 := μ) (vc := True) rfl (by decide +kernel) rfl trivial ?_
  rw [lr_rT hR, lr_gT hG]
  refine pm_bl [(.iload_n 1, 1, 1, 0, 0), (.iadd, 1, 0, 0, 0), (.sipush 365, 3, 0, 0, 365)] (pc1 := 22) (lo1 := [some (.ref 0), some (.int y), none, none]) (st1 := [.int 365, .int ((nI (lr_n g 0)) + y)]) (μ1 := μ) (vc := True) rfl (by decide +kernel) rfl trivial ?_
  refine pm_icmp_le (off := 14) 36 (by decide +kernel) (by decide) (fun (h9 : ((nI (lr_n g 0)) + y) ≤ 365) => absurd h9 (Int32.not_le.mpr hy)) (fun (h22 : ¬ (((nI (lr_n g 0)) + y) ≤ 365)) => ?_)
  exact pm_throwW (is := 322) (tx := "so many days cannot go by") pm_exIA rfl (by decide +kernel) rfl (by decide +kernel) (by decide +kernel) (by decide +kernel) (by decide +kernel) (by decide +kernel) (by decide) (by decide) (⟨rfl, rfl⟩)
set_option maxHeartbeats 4000000 in
set_option maxRecDepth 100000 in
theorem l_X9_pass {g : Nat → Int32} {K c n : Nat} {F : Nat → Nat → Int32} {μ0 : pm_Mm} (hI : lr_I g) (hT : lr_n g 0 + K ≤ 365) (hmono : lr_n g 1 ≤ lr_n (lr_days g K) 1) : ∀ m k : Nat, k + m = K → ∀ (μ1 : pm_Mm), lr_fc μ0 μ1 → lr_Rel μ1.1 1 (lr_days g k) → lr_Hs μ1.1 c n F → pm_V mi_X9_pass ((fun v μ2 => v = some (.int (nI (lr_n (lr_days g K) 1 - lr_n g 1))) ∧ lr_fc μ0 μ2 ∧ lr_Rel μ2.1 1 (lr_days g K) ∧ lr_Hs μ2.1 c n F), pm_NX, fun _ _ _ => True) 0 0 60 [some (.ref 0), some (.int (nI K)), some (.int (nI (lr_n g 1))), some (.int (nI k))] [] μ1 := by
  intro m
  induction m with
  | zero =>
    intro k hk μ1 hf hR hH
    have hGK := (lr_days_I hI K hT).1.1
    refine pm_bl [(.iload_n 3, 1, 3, 0, 0), (.iload_n 1, 1, 1, 0, 0)] (pc1 := 62) (lo1 := [some (.ref 0), some (.int (nI K)), some (.int (nI (lr_n g 1))), some (.int (nI k))]) (st1 := [.int (nI K), .int (nI k)]) (μ1 := μ1) (vc := True) rfl (by decide +kernel) rfl trivial ?_
    refine pm_icmp_ge (off := 16) 78 (by decide +kernel) (by decide) (fun (h62 : (nI K) ≤ (nI k)) => ?_) (fun (h9 : ¬ ((nI K) ≤ (nI k))) => absurd (nI_le (by omega) (by omega)) h9)
    refine pm_bl [(.aload_n 0, 1, 0, 0, 0), (.getfield 10, 3, 9, 0, 0), (.getfield 235, 3, 5, 5, 0), (.getfield 304, 3, 4, 1, 0)] (pc1 := 88) (lo1 := [some (.ref 0), some (.int (nI K)), some (.int (nI (lr_n g 1))), some (.int (nI k))]) (st1 := [.int (μ1.1 26 1)]) (μ1 := μ1) (vc := True) rfl (by decide +kernel) rfl trivial ?_
    rw [show μ1.1 26 1 = nI (lr_n (lr_days g K) 1) from by rw [lr_rD hR, show k = K from by omega]; exact lr_gD hGK]
    refine pm_bl [(.iload_n 2, 1, 2, 0, 0), (.isub, 1, 0, 0, 0)] (pc1 := 90) (lo1 := [some (.ref 0), some (.int (nI K)), some (.int (nI (lr_n g 1))), some (.int (nI k))]) (st1 := [.int ((nI (lr_n (lr_days g K) 1)) - (nI (lr_n g 1)))]) (μ1 := μ1) (vc := True) rfl (by decide +kernel) rfl trivial ?_
    exact pm_iret (ty := .int) rfl rfl (by decide) (by decide) (by decide +kernel) (⟨by rw [nI_subN hmono], hf, by rw [← show k = K from by omega]; exact hR, hH⟩)
  | succ m ih =>
    intro k hk μ1 hf hR hH
    have hIk := lr_days_I hI k (by omega)
    refine pm_bl [(.iload_n 3, 1, 3, 0, 0), (.iload_n 1, 1, 1, 0, 0)] (pc1 := 62) (lo1 := [some (.ref 0), some (.int (nI K)), some (.int (nI (lr_n g 1))), some (.int (nI k))]) (st1 := [.int (nI K), .int (nI k)]) (μ1 := μ1) (vc := True) rfl (by decide +kernel) rfl trivial ?_
    refine pm_icmp_ge (off := 16) 78 (by decide +kernel) (by decide) (fun (h9 : (nI K) ≤ (nI k)) => absurd h9 (nI_ge (by omega) (by omega))) (fun (h62 : ¬ ((nI K) ≤ (nI k))) => ?_)
    refine pm_bl [(.aload_n 0, 1, 0, 0, 0), (.getfield 10, 3, 9, 0, 0)] (pc1 := 69) (lo1 := [some (.ref 0), some (.int (nI K)), some (.int (nI (lr_n g 1))), some (.int (nI k))]) (st1 := [.ref 1]) (μ1 := μ1) (vc := True) rfl (by decide +kernel) rfl trivial ?_
    refine pm_callV2 mi_X5_endDay (ix := 324) (b := 1) (ci := 5) (kc2 := 0) (ks2 := 0) (As := []) (rest := []) (c_X5_endDay μ1 hR hIk.1) cal_X5_endDay lk9_324 (by decide +kernel) rfl (by decide +kernel) rfl rfl rfl rfl (Nat.le_of_ble_eq_true rfl) (by decide) (by decide) (fun _ _ h9 => h9.elim) ?_
    rintro _ μ3 ⟨rfl, hf3, hR3⟩
    show pm_V _ _ _ _ 72 _ [] _
    refine pm_bl [(.iinc 3 1, 3, 3, 0, 1), (.goto (-15), 3, 60, 0, 0)] (pc1 := 60) (lo1 := [some (.ref 0), some (.int (nI K)), some (.int (nI (lr_n g 1))), some (.int ((nI k) + 1))]) (st1 := []) (μ1 := μ3) (vc := True) rfl (by decide +kernel) rfl trivial ?_
    rw [nI_1]; exact ih (k + 1) (by omega) μ3 (hf.tr hf3) hR3 (hH.fr (fun i hi => hf3.1 i (by omega)))
theorem lr_days_D {g : Nat → Int32} (hI : lr_I g) : ∀ K, lr_n g 0 + K ≤ 365 → lr_n g 1 ≤ lr_n (lr_days g K) 1 := by
  intro K
  induction K with
  | zero => intro _; exact Nat.le_refl _
  | succ K ih =>
    intro h
    have := lr_day_D (lr_days_I hI K (by omega)).1
    have := ih (by omega)
    simp only [lr_days]; omega
set_option maxHeartbeats 4000000 in
set_option maxRecDepth 100000 in
theorem c_X9_pass {g : Nat → Int32} {c n : Nat} {F : Nat → Nat → Int32} {K : Nat} (μ : pm_Mm) (hR : lr_Rel μ.1 1 g) (hG : lr_G g) (hI : lr_I g) (hl : lr_in (nI K) 1 60 = true) (hK : K ≤ 60) (hT : lr_n g 0 + K ≤ 365) (hH : lr_Hs μ.1 c n F) : pm_CT mi_X9_pass [.ref 0, .int (nI K)] μ (fun v μ2 => v = some (.int (nI (lr_n (lr_days g K) 1 - lr_n g 1))) ∧ lr_fc μ μ2 ∧ lr_Rel μ2.1 1 (lr_days g K) ∧ lr_Hs μ2.1 (min (c + 1) 8) ((n + 1) % 8) (lr_psh c F g)) pm_NX := by
  refine pm_CT_of (lo := [some (.ref 0), some (.int (nI K)), none, none]) (by decide +kernel) rfl rfl (by intro v hv; simp at hv; rcases hv with rfl | rfl <;> rfl) (Nat.le_of_ble_eq_true rfl) rfl ?_
  have hm1 := lr_mh hG; have hm2 := lr_mw hG; have hm3 := lr_mp hG; have hm4 := lr_mr hG; have hm5 := lr_ma hG; have hm6 := lr_ml hG
  refine pm_bl [(.iload_n 1, 1, 1, 0, 0), (.iconst 1, 1, 0, 0, 1), (.bipush 60, 2, 0, 0, 60)] (pc1 := 4) (lo1 := [some (.ref 0), some (.int (nI K)), none, none]) (st1 := [.int 60, .int 1, .int (nI K)]) (μ1 := μ) (vc := True) rfl (by decide +kernel) rfl trivial ?_
  refine pm_callS2 mi_X9_isBetween (ix := 102) (kc2 := 0) (ks2 := 0) (As := [.int (nI K), .int 1, .int 60]) (rest := []) (c_X9_isBetween (nI K) 1 60 μ) cal_X9_isBetween lk9_102 (by decide +kernel) rfl (by decide +kernel) rfl rfl (Nat.le_of_ble_eq_true rfl) (by decide) (by decide) (fun _ _ h9 => h9.elim) ?_
  rintro _ _ ⟨rfl, h9⟩; rw [h9]; clear h9
  show pm_V _ _ _ _ 7 _ [.int (lr_b (lr_in (nI K) 1 60))] _
  refine pm_ifb_eq (off := 18) 25 (by decide +kernel) (by decide) (fun (h9 : (lr_in (nI K) 1 60) = false) => absurd (hl.symm.trans h9) (by decide)) (fun (h7 : (lr_in (nI K) 1 60) = true) => ?_)
  refine pm_bl [(.aload_n 0, 1, 0, 0, 0), (.getfield 10, 3, 9, 0, 0), (.getfield 242, 3, 5, 6, 0)] (pc1 := 17) (lo1 := [some (.ref 0), some (.int (nI K)), none, none]) (st1 := [.int (μ.1 1 6)]) (μ1 := μ) (vc := True) rfl (by decide +kernel) rfl trivial ?_
  rw [lr_rT hR, lr_gT hG]
  refine pm_bl [(.iload_n 1, 1, 1, 0, 0), (.iadd, 1, 0, 0, 0), (.sipush 365, 3, 0, 0, 365)] (pc1 := 22) (lo1 := [some (.ref 0), some (.int (nI K)), none, none]) (st1 := [.int 365, .int ((nI (lr_n g 0)) + (nI K))]) (μ1 := μ) (vc := True) rfl (by decide +kernel) rfl trivial ?_
  refine pm_icmp_le (off := 14) 36 (by decide +kernel) (by decide) (fun (h22 : ((nI (lr_n g 0)) + (nI K)) ≤ 365) => ?_) (fun (h9 : ¬ (((nI (lr_n g 0)) + (nI K)) ≤ 365)) => absurd (by rw [nI_add]; exact nI_le (b := 365) hT (by decide)) h9)
  refine pm_bl [(.aload_n 0, 1, 0, 0, 0), (.getfield 19, 3, 9, 1, 0), (.aload_n 0, 1, 0, 0, 0), (.getfield 10, 3, 9, 0, 0)] (pc1 := 44) (lo1 := [some (.ref 0), some (.int (nI K)), none, none]) (st1 := [.ref 1, .ref 45]) (μ1 := μ) (vc := True) rfl (by decide +kernel) rfl trivial ?_
  refine pm_callV2 mi_X2_keep (ix := 78) (b := 45) (ci := 2) (kc2 := 0) (ks2 := 0) (As := [.ref 1]) (rest := []) (c_X2_keep (c := c) (n := n) μ hR hG.B hH.2.1 hH.2.2.2.1 hH.2.2.1 hH.1) cal_X2_keep lk9_78 (by decide +kernel) rfl (by decide +kernel) rfl rfl rfl rfl (Nat.le_of_ble_eq_true rfl) (by decide) (by decide) (fun _ _ h9 => h9.elim) ?_
  rintro _ μ1 ⟨rfl, h2k, hfk, hRk, hck, hnk⟩
  obtain ⟨hFC, hR1, hH1⟩ := lr_keep_ok hR hH h2k hfk hRk hck hnk
  show pm_V _ _ _ _ 47 _ [] _
  refine pm_bl [(.aload_n 0, 1, 0, 0, 0), (.getfield 10, 3, 9, 0, 0), (.getfield 235, 3, 5, 5, 0), (.getfield 304, 3, 4, 1, 0)] (pc1 := 57) (lo1 := [some (.ref 0), some (.int (nI K)), none, none]) (st1 := [.int (μ1.1 26 1)]) (μ1 := μ1) (vc := True) rfl (by decide +kernel) rfl trivial ?_
  rw [lr_rD hR1, lr_gD hG]
  refine pm_bl [(.istore_n 2, 1, 2, 0, 0), (.iconst 0, 1, 0, 0, 0), (.istore_n 3, 1, 3, 0, 0)] (pc1 := 60) (lo1 := [some (.ref 0), some (.int (nI K)), some (.int (nI (lr_n g 1))), some (.int 0)]) (st1 := []) (μ1 := μ1) (vc := True) rfl (by decide +kernel) rfl trivial ?_
  exact l_X9_pass hI hT (lr_days_D hI K hT) K 0 (Nat.zero_add _) μ1 hFC hR1 hH1
set_option maxHeartbeats 4000000 in
set_option maxRecDepth 100000 in
theorem c_X9_today {g : Nat → Int32} (μ : pm_Mm) (hR : lr_Rel μ.1 1 g) (hG : lr_G g) : pm_CT mi_X9_today [.ref 0] μ (fun v μ2 => v = some (.int (nI (lr_n g 0))) ∧ μ2 = μ) pm_NX := by
  refine pm_CT_of (lo := [some (.ref 0)]) (by decide +kernel) rfl rfl (by intro v hv; simp at hv; rcases hv with rfl <;> rfl) (Nat.le_of_ble_eq_true rfl) rfl ?_
  have hm1 := lr_mh hG; have hm2 := lr_mw hG; have hm3 := lr_mp hG; have hm4 := lr_mr hG; have hm5 := lr_ma hG; have hm6 := lr_ml hG
  refine pm_bl [(.aload_n 0, 1, 0, 0, 0), (.getfield 10, 3, 9, 0, 0), (.getfield 242, 3, 5, 6, 0)] (pc1 := 7) (lo1 := [some (.ref 0)]) (st1 := [.int (μ.1 1 6)]) (μ1 := μ) (vc := True) rfl (by decide +kernel) rfl trivial ?_
  rw [lr_rT hR, lr_gT hG]
  exact pm_iret (ty := .int) rfl rfl (by decide) (by decide) (by decide +kernel) (⟨rfl, rfl⟩)
set_option maxHeartbeats 4000000 in
set_option maxRecDepth 100000 in
theorem c_X9_account_0 {g : Nat → Int32} (μ : pm_Mm) (hR : lr_Rel μ.1 1 g) (hG : lr_G g) : pm_CT mi_X9_account [.ref 0, .int 0] μ (fun v μ2 => v = some (.int (nI (lr_n g 2))) ∧ μ2 = μ) pm_NX := by
  refine pm_CT_of (lo := [some (.ref 0), some (.int 0)]) (by decide +kernel) rfl rfl (by intro v hv; simp at hv; rcases hv with rfl | rfl <;> rfl) (Nat.le_of_ble_eq_true rfl) rfl ?_
  have hm1 := lr_mh hG; have hm2 := lr_mw hG; have hm3 := lr_mp hG; have hm4 := lr_mr hG; have hm5 := lr_ma hG; have hm6 := lr_ml hG
  refine pm_bl [(.iload_n 1, 1, 1, 0, 0)] (pc1 := 1) (lo1 := [some (.ref 0), some (.int 0)]) (st1 := [.int 0]) (μ1 := μ) (vc := True) rfl (by decide +kernel) rfl trivial ?_
  refine pm_tswI (off := 59) 60 (by decide +kernel) (by decide) (by decide) (by decide) (by decide) ?_
  refine pm_bl [(.aload_n 0, 1, 0, 0, 0), (.getfield 10, 3, 9, 0, 0), (.getfield 58, 3, 5, 0, 0), (.getfield 70, 3, 3, 0, 0)] (pc1 := 70) (lo1 := [some (.ref 0), some (.int 0)]) (st1 := [.int (μ.1 2 0)]) (μ1 := μ) (vc := True) rfl (by decide +kernel) rfl trivial ?_
  rw [lr_rNh hR, lr_gh hG]
  exact pm_iret (ty := .int) rfl rfl (by decide) (by decide) (by decide +kernel) (⟨rfl, rfl⟩)
set_option maxHeartbeats 4000000 in
set_option maxRecDepth 100000 in
theorem c_X9_account_1 {g : Nat → Int32} (μ : pm_Mm) (hR : lr_Rel μ.1 1 g) (hG : lr_G g) : pm_CT mi_X9_account [.ref 0, .int 1] μ (fun v μ2 => v = some (.int (nI (lr_n g 35))) ∧ μ2 = μ) pm_NX := by
  refine pm_CT_of (lo := [some (.ref 0), some (.int 1)]) (by decide +kernel) rfl rfl (by intro v hv; simp at hv; rcases hv with rfl | rfl <;> rfl) (Nat.le_of_ble_eq_true rfl) rfl ?_
  have hm1 := lr_mh hG; have hm2 := lr_mw hG; have hm3 := lr_mp hG; have hm4 := lr_mr hG; have hm5 := lr_ma hG; have hm6 := lr_ml hG
  refine pm_bl [(.iload_n 1, 1, 1, 0, 0)] (pc1 := 1) (lo1 := [some (.ref 0), some (.int 1)]) (st1 := [.int 1]) (μ1 := μ) (vc := True) rfl (by decide +kernel) rfl trivial ?_
  refine pm_tswI (off := 70) 71 (by decide +kernel) (by decide) (by decide) (by decide) (by decide) ?_
  refine pm_bl [(.aload_n 0, 1, 0, 0, 0), (.getfield 10, 3, 9, 0, 0), (.getfield 90, 3, 5, 1, 0), (.getfield 94, 3, 6, 0, 0)] (pc1 := 81) (lo1 := [some (.ref 0), some (.int 1)]) (st1 := [.int (μ.1 5 0)]) (μ1 := μ) (vc := True) rfl (by decide +kernel) rfl trivial ?_
  rw [lr_rNp hR, lr_gp hG]
  exact pm_iret (ty := .int) rfl rfl (by decide) (by decide) (by decide +kernel) (⟨rfl, rfl⟩)
set_option maxHeartbeats 4000000 in
set_option maxRecDepth 100000 in
theorem c_X9_account_2 {g : Nat → Int32} (μ : pm_Mm) (hR : lr_Rel μ.1 1 g) (hG : lr_G g) : pm_CT mi_X9_account [.ref 0, .int 2] μ (fun v μ2 => v = some (.int (nI (lr_n g 116))) ∧ μ2 = μ) pm_NX := by
  refine pm_CT_of (lo := [some (.ref 0), some (.int 2)]) (by decide +kernel) rfl rfl (by intro v hv; simp at hv; rcases hv with rfl | rfl <;> rfl) (Nat.le_of_ble_eq_true rfl) rfl ?_
  have hm1 := lr_mh hG; have hm2 := lr_mw hG; have hm3 := lr_mp hG; have hm4 := lr_mr hG; have hm5 := lr_ma hG; have hm6 := lr_ml hG
  refine pm_bl [(.iload_n 1, 1, 1, 0, 0)] (pc1 := 1) (lo1 := [some (.ref 0), some (.int 2)]) (st1 := [.int 2]) (μ1 := μ) (vc := True) rfl (by decide +kernel) rfl trivial ?_
  refine pm_tswI (off := 81) 82 (by decide +kernel) (by decide) (by decide) (by decide) (by decide) ?_
  refine pm_bl [(.aload_n 0, 1, 0, 0, 0), (.getfield 10, 3, 9, 0, 0), (.getfield 112, 3, 5, 2, 0), (.getfield 116, 3, 8, 0, 0)] (pc1 := 92) (lo1 := [some (.ref 0), some (.int 2)]) (st1 := [.int (μ.1 10 0)]) (μ1 := μ) (vc := True) rfl (by decide +kernel) rfl trivial ?_
  rw [lr_rNw hR, lr_gw hG]
  exact pm_iret (ty := .int) rfl rfl (by decide) (by decide) (by decide +kernel) (⟨rfl, rfl⟩)
set_option maxHeartbeats 4000000 in
set_option maxRecDepth 100000 in
theorem c_X9_account_3 {g : Nat → Int32} (μ : pm_Mm) (hR : lr_Rel μ.1 1 g) (hG : lr_G g) : pm_CT mi_X9_account [.ref 0, .int 3] μ (fun v μ2 => v = some (.int (nI (lr_n g 167))) ∧ μ2 = μ) pm_NX := by
  refine pm_CT_of (lo := [some (.ref 0), some (.int 3)]) (by decide +kernel) rfl rfl (by intro v hv; simp at hv; rcases hv with rfl | rfl <;> rfl) (Nat.le_of_ble_eq_true rfl) rfl ?_
  have hm1 := lr_mh hG; have hm2 := lr_mw hG; have hm3 := lr_mp hG; have hm4 := lr_mr hG; have hm5 := lr_ma hG; have hm6 := lr_ml hG
  refine pm_bl [(.iload_n 1, 1, 1, 0, 0)] (pc1 := 1) (lo1 := [some (.ref 0), some (.int 3)]) (st1 := [.int 3]) (μ1 := μ) (vc := True) rfl (by decide +kernel) rfl trivial ?_
  refine pm_tswI (off := 92) 93 (by decide +kernel) (by decide) (by decide) (by decide) (by decide) ?_
  refine pm_bl [(.aload_n 0, 1, 0, 0, 0), (.getfield 10, 3, 9, 0, 0), (.getfield 158, 3, 5, 3, 0), (.getfield 162, 3, 7, 0, 0)] (pc1 := 103) (lo1 := [some (.ref 0), some (.int 3)]) (st1 := [.int (μ.1 16 0)]) (μ1 := μ) (vc := True) rfl (by decide +kernel) rfl trivial ?_
  rw [lr_rNr hR, lr_gr hG]
  exact pm_iret (ty := .int) rfl rfl (by decide) (by decide) (by decide +kernel) (⟨rfl, rfl⟩)
set_option maxHeartbeats 4000000 in
set_option maxRecDepth 100000 in
theorem c_X9_account_4 {g : Nat → Int32} (μ : pm_Mm) (hR : lr_Rel μ.1 1 g) (hG : lr_G g) : pm_CT mi_X9_account [.ref 0, .int 4] μ (fun v μ2 => v = some (.int (nI (lr_n g 289))) ∧ μ2 = μ) pm_NX := by
  refine pm_CT_of (lo := [some (.ref 0), some (.int 4)]) (by decide +kernel) rfl rfl (by intro v hv; simp at hv; rcases hv with rfl | rfl <;> rfl) (Nat.le_of_ble_eq_true rfl) rfl ?_
  have hm1 := lr_mh hG; have hm2 := lr_mw hG; have hm3 := lr_mp hG; have hm4 := lr_mr hG; have hm5 := lr_ma hG; have hm6 := lr_ml hG
  refine pm_bl [(.iload_n 1, 1, 1, 0, 0)] (pc1 := 1) (lo1 := [some (.ref 0), some (.int 4)]) (st1 := [.int 4]) (μ1 := μ) (vc := True) rfl (by decide +kernel) rfl trivial ?_
  refine pm_tswI (off := 103) 104 (by decide +kernel) (by decide) (by decide) (by decide) (by decide) ?_
  refine pm_bl [(.aload_n 0, 1, 0, 0, 0), (.getfield 10, 3, 9, 0, 0), (.getfield 235, 3, 5, 5, 0), (.getfield 239, 3, 4, 0, 0)] (pc1 := 114) (lo1 := [some (.ref 0), some (.int 4)]) (st1 := [.int (μ.1 26 0)]) (μ1 := μ) (vc := True) rfl (by decide +kernel) rfl trivial ?_
  rw [lr_rNl hR, lr_gl hG]
  exact pm_iret (ty := .int) rfl rfl (by decide) (by decide) (by decide +kernel) (⟨rfl, rfl⟩)
set_option maxHeartbeats 4000000 in
set_option maxRecDepth 100000 in
theorem c_X9_account_5 {g : Nat → Int32} (μ : pm_Mm) (hR : lr_Rel μ.1 1 g) (hG : lr_G g) : pm_CT mi_X9_account [.ref 0, .int 5] μ (fun v μ2 => v = some (.int (lr_cst g 0)) ∧ μ2 = μ) pm_NX := by
  refine pm_CT_of (lo := [some (.ref 0), some (.int 5)]) (by decide +kernel) rfl rfl (by intro v hv; simp at hv; rcases hv with rfl | rfl <;> rfl) (Nat.le_of_ble_eq_true rfl) rfl ?_
  have hm1 := lr_mh hG; have hm2 := lr_mw hG; have hm3 := lr_mp hG; have hm4 := lr_mr hG; have hm5 := lr_ma hG; have hm6 := lr_ml hG
  refine pm_bl [(.iload_n 1, 1, 1, 0, 0)] (pc1 := 1) (lo1 := [some (.ref 0), some (.int 5)]) (st1 := [.int 5]) (μ1 := μ) (vc := True) rfl (by decide +kernel) rfl trivial ?_
  refine pm_tswI (off := 114) 115 (by decide +kernel) (by decide) (by decide) (by decide) (by decide) ?_
  refine pm_bl [(.aload_n 0, 1, 0, 0, 0), (.getfield 10, 3, 9, 0, 0), (.getfield 235, 3, 5, 5, 0), (.iconst 0, 1, 0, 0, 0)] (pc1 := 123) (lo1 := [some (.ref 0), some (.int 5)]) (st1 := [.int 0, .ref 26]) (μ1 := μ) (vc := True) rfl (by decide +kernel) rfl trivial ?_
  refine pm_callV2 mi_X4_countInState (ix := 327) (b := 26) (ci := 4) (kc2 := 0) (ks2 := 0) (As := [.int 0]) (rest := []) (c_X4_countInState 0 μ hR hG) cal_X4_countInState lk9_327 (by decide +kernel) rfl (by decide +kernel) rfl rfl rfl rfl (Nat.le_of_ble_eq_true rfl) (by decide) (by decide) (fun _ _ h9 => h9.elim) ?_
  rintro _ _ ⟨rfl, h9⟩; rw [h9]; clear h9
  show pm_V _ _ _ _ 126 _ [.int (lr_cst g 0)] _
  exact pm_iret (ty := .int) rfl rfl (by decide) (by decide) (by decide +kernel) (⟨rfl, rfl⟩)
set_option maxHeartbeats 4000000 in
set_option maxRecDepth 100000 in
theorem c_X9_account_6 {g : Nat → Int32} (μ : pm_Mm) (hR : lr_Rel μ.1 1 g) (hG : lr_G g) : pm_CT mi_X9_account [.ref 0, .int 6] μ (fun v μ2 => v = some (.int (lr_cst g 1)) ∧ μ2 = μ) pm_NX := by
  refine pm_CT_of (lo := [some (.ref 0), some (.int 6)]) (by decide +kernel) rfl rfl (by intro v hv; simp at hv; rcases hv with rfl | rfl <;> rfl) (Nat.le_of_ble_eq_true rfl) rfl ?_
  have hm1 := lr_mh hG; have hm2 := lr_mw hG; have hm3 := lr_mp hG; have hm4 := lr_mr hG; have hm5 := lr_ma hG; have hm6 := lr_ml hG
  refine pm_bl [(.iload_n 1, 1, 1, 0, 0)] (pc1 := 1) (lo1 := [some (.ref 0), some (.int 6)]) (st1 := [.int 6]) (μ1 := μ) (vc := True) rfl (by decide +kernel) rfl trivial ?_
  refine pm_tswI (off := 126) 127 (by decide +kernel) (by decide) (by decide) (by decide) (by decide) ?_
  refine pm_bl [(.aload_n 0, 1, 0, 0, 0), (.getfield 10, 3, 9, 0, 0), (.getfield 235, 3, 5, 5, 0), (.iconst 1, 1, 0, 0, 1)] (pc1 := 135) (lo1 := [some (.ref 0), some (.int 6)]) (st1 := [.int 1, .ref 26]) (μ1 := μ) (vc := True) rfl (by decide +kernel) rfl trivial ?_
  refine pm_callV2 mi_X4_countInState (ix := 327) (b := 26) (ci := 4) (kc2 := 0) (ks2 := 0) (As := [.int 1]) (rest := []) (c_X4_countInState 1 μ hR hG) cal_X4_countInState lk9_327 (by decide +kernel) rfl (by decide +kernel) rfl rfl rfl rfl (Nat.le_of_ble_eq_true rfl) (by decide) (by decide) (fun _ _ h9 => h9.elim) ?_
  rintro _ _ ⟨rfl, h9⟩; rw [h9]; clear h9
  show pm_V _ _ _ _ 138 _ [.int (lr_cst g 1)] _
  exact pm_iret (ty := .int) rfl rfl (by decide) (by decide) (by decide +kernel) (⟨rfl, rfl⟩)
set_option maxHeartbeats 4000000 in
set_option maxRecDepth 100000 in
theorem c_X9_account_7 {g : Nat → Int32} (μ : pm_Mm) (hR : lr_Rel μ.1 1 g) (hG : lr_G g) : pm_CT mi_X9_account [.ref 0, .int 7] μ (fun v μ2 => v = some (.int (lr_cst g 2)) ∧ μ2 = μ) pm_NX := by
  refine pm_CT_of (lo := [some (.ref 0), some (.int 7)]) (by decide +kernel) rfl rfl (by intro v hv; simp at hv; rcases hv with rfl | rfl <;> rfl) (Nat.le_of_ble_eq_true rfl) rfl ?_
  have hm1 := lr_mh hG; have hm2 := lr_mw hG; have hm3 := lr_mp hG; have hm4 := lr_mr hG; have hm5 := lr_ma hG; have hm6 := lr_ml hG
  refine pm_bl [(.iload_n 1, 1, 1, 0, 0)] (pc1 := 1) (lo1 := [some (.ref 0), some (.int 7)]) (st1 := [.int 7]) (μ1 := μ) (vc := True) rfl (by decide +kernel) rfl trivial ?_
  refine pm_tswI (off := 138) 139 (by decide +kernel) (by decide) (by decide) (by decide) (by decide) ?_
  refine pm_bl [(.aload_n 0, 1, 0, 0, 0), (.getfield 10, 3, 9, 0, 0), (.getfield 235, 3, 5, 5, 0), (.iconst 2, 1, 0, 0, 2)] (pc1 := 147) (lo1 := [some (.ref 0), some (.int 7)]) (st1 := [.int 2, .ref 26]) (μ1 := μ) (vc := True) rfl (by decide +kernel) rfl trivial ?_
  refine pm_callV2 mi_X4_countInState (ix := 327) (b := 26) (ci := 4) (kc2 := 0) (ks2 := 0) (As := [.int 2]) (rest := []) (c_X4_countInState 2 μ hR hG) cal_X4_countInState lk9_327 (by decide +kernel) rfl (by decide +kernel) rfl rfl rfl rfl (Nat.le_of_ble_eq_true rfl) (by decide) (by decide) (fun _ _ h9 => h9.elim) ?_
  rintro _ _ ⟨rfl, h9⟩; rw [h9]; clear h9
  show pm_V _ _ _ _ 150 _ [.int (lr_cst g 2)] _
  exact pm_iret (ty := .int) rfl rfl (by decide) (by decide) (by decide +kernel) (⟨rfl, rfl⟩)
set_option maxHeartbeats 4000000 in
set_option maxRecDepth 100000 in
theorem c_X9_account_8 {g : Nat → Int32} (μ : pm_Mm) (hR : lr_Rel μ.1 1 g) (hG : lr_G g) : pm_CT mi_X9_account [.ref 0, .int 8] μ (fun v μ2 => v = some (.int (lr_wwt g)) ∧ μ2 = μ) pm_NX := by
  refine pm_CT_of (lo := [some (.ref 0), some (.int 8)]) (by decide +kernel) rfl rfl (by intro v hv; simp at hv; rcases hv with rfl | rfl <;> rfl) (Nat.le_of_ble_eq_true rfl) rfl ?_
  have hm1 := lr_mh hG; have hm2 := lr_mw hG; have hm3 := lr_mp hG; have hm4 := lr_mr hG; have hm5 := lr_ma hG; have hm6 := lr_ml hG
  refine pm_bl [(.iload_n 1, 1, 1, 0, 0)] (pc1 := 1) (lo1 := [some (.ref 0), some (.int 8)]) (st1 := [.int 8]) (μ1 := μ) (vc := True) rfl (by decide +kernel) rfl trivial ?_
  refine pm_tswI (off := 150) 151 (by decide +kernel) (by decide) (by decide) (by decide) (by decide) ?_
  refine pm_bl [(.aload_n 0, 1, 0, 0, 0), (.getfield 10, 3, 9, 0, 0), (.getfield 235, 3, 5, 5, 0)] (pc1 := 158) (lo1 := [some (.ref 0), some (.int 8)]) (st1 := [.ref 26]) (μ1 := μ) (vc := True) rfl (by decide +kernel) rfl trivial ?_
  refine pm_callV2 mi_X4_waitingWeight (ix := 330) (b := 26) (ci := 4) (kc2 := 0) (ks2 := 0) (As := []) (rest := []) (c_X4_waitingWeight μ hR hG) cal_X4_waitingWeight lk9_330 (by decide +kernel) rfl (by decide +kernel) rfl rfl rfl rfl (Nat.le_of_ble_eq_true rfl) (by decide) (by decide) (fun _ _ h9 => h9.elim) ?_
  rintro _ _ ⟨rfl, h9⟩; rw [h9]; clear h9
  show pm_V _ _ _ _ 161 _ [.int (lr_wwt g)] _
  exact pm_iret (ty := .int) rfl rfl (by decide) (by decide) (by decide +kernel) (⟨rfl, rfl⟩)
set_option maxHeartbeats 4000000 in
set_option maxRecDepth 100000 in
theorem c_X9_account_9 {g : Nat → Int32} (μ : pm_Mm) (hR : lr_Rel μ.1 1 g) (hG : lr_G g) : pm_CT mi_X9_account [.ref 0, .int 9] μ (fun v μ2 => v = some (.int (lr_svd g (-1))) ∧ μ2 = μ) pm_NX := by
  refine pm_CT_of (lo := [some (.ref 0), some (.int 9)]) (by decide +kernel) rfl rfl (by intro v hv; simp at hv; rcases hv with rfl | rfl <;> rfl) (Nat.le_of_ble_eq_true rfl) rfl ?_
  have hm1 := lr_mh hG; have hm2 := lr_mw hG; have hm3 := lr_mp hG; have hm4 := lr_mr hG; have hm5 := lr_ma hG; have hm6 := lr_ml hG
  refine pm_bl [(.iload_n 1, 1, 1, 0, 0)] (pc1 := 1) (lo1 := [some (.ref 0), some (.int 9)]) (st1 := [.int 9]) (μ1 := μ) (vc := True) rfl (by decide +kernel) rfl trivial ?_
  refine pm_tswI (off := 161) 162 (by decide +kernel) (by decide) (by decide) (by decide) (by decide) ?_
  refine pm_bl [(.aload_n 0, 1, 0, 0, 0), (.getfield 10, 3, 9, 0, 0), (.iconst (-1), 1, 0, 0, (-1))] (pc1 := 167) (lo1 := [some (.ref 0), some (.int 9)]) (st1 := [.int (-1), .ref 1]) (μ1 := μ) (vc := True) rfl (by decide +kernel) rfl trivial ?_
  refine pm_callV2 mi_X5_countServedBy (ix := 124) (b := 1) (ci := 5) (kc2 := 0) (ks2 := 0) (As := [.int (-1)]) (rest := []) (c_X5_countServedBy (-1) μ hR hG) cal_X5_countServedBy lk9_124 (by decide +kernel) rfl (by decide +kernel) rfl rfl rfl rfl (Nat.le_of_ble_eq_true rfl) (by decide) (by decide) (fun _ _ h9 => h9.elim) ?_
  rintro _ _ ⟨rfl, h9⟩; rw [h9]; clear h9
  show pm_V _ _ _ _ 170 _ [.int (lr_svd g (-1))] _
  exact pm_iret (ty := .int) rfl rfl (by decide) (by decide) (by decide +kernel) (⟨rfl, rfl⟩)
set_option maxHeartbeats 4000000 in
set_option maxRecDepth 100000 in
theorem c_X9_account_10 {g : Nat → Int32} (μ : pm_Mm) (hR : lr_Rel μ.1 1 g) (hG : lr_G g) : pm_CT mi_X9_account [.ref 0, .int 10] μ (fun v μ2 => v = some (.int (lr_atr g)) ∧ μ2 = μ) pm_NX := by
  refine pm_CT_of (lo := [some (.ref 0), some (.int 10)]) (by decide +kernel) rfl rfl (by intro v hv; simp at hv; rcases hv with rfl | rfl <;> rfl) (Nat.le_of_ble_eq_true rfl) rfl ?_
  have hm1 := lr_mh hG; have hm2 := lr_mw hG; have hm3 := lr_mp hG; have hm4 := lr_mr hG; have hm5 := lr_ma hG; have hm6 := lr_ml hG
  refine pm_bl [(.iload_n 1, 1, 1, 0, 0)] (pc1 := 1) (lo1 := [some (.ref 0), some (.int 10)]) (st1 := [.int 10]) (μ1 := μ) (vc := True) rfl (by decide +kernel) rfl trivial ?_
  refine pm_tswI (off := 170) 171 (by decide +kernel) (by decide) (by decide) (by decide) (by decide) ?_
  refine pm_bl [(.aload_n 0, 1, 0, 0, 0), (.getfield 10, 3, 9, 0, 0), (.getfield 235, 3, 5, 5, 0)] (pc1 := 178) (lo1 := [some (.ref 0), some (.int 10)]) (st1 := [.ref 26]) (μ1 := μ) (vc := True) rfl (by decide +kernel) rfl trivial ?_
  refine pm_callV2 mi_X4_allTries (ix := 333) (b := 26) (ci := 4) (kc2 := 0) (ks2 := 0) (As := []) (rest := []) (c_X4_allTries μ hR hG) cal_X4_allTries lk9_333 (by decide +kernel) rfl (by decide +kernel) rfl rfl rfl rfl (Nat.le_of_ble_eq_true rfl) (by decide) (by decide) (fun _ _ h9 => h9.elim) ?_
  rintro _ _ ⟨rfl, h9⟩; rw [h9]; clear h9
  show pm_V _ _ _ _ 181 _ [.int (lr_atr g)] _
  exact pm_iret (ty := .int) rfl rfl (by decide) (by decide) (by decide +kernel) (⟨rfl, rfl⟩)
set_option maxHeartbeats 4000000 in
set_option maxRecDepth 100000 in
theorem c_X9_account_no {g : Nat → Int32} {x : Int32} (μ : pm_Mm) (hR : lr_Rel μ.1 1 g) (hG : lr_G g) (ho : x.toInt < 0 ∨ 10 < x.toInt) : pm_CT mi_X9_account [.ref 0, .int x] μ (fun _ _ => False) (fun E μ2 => E = "java/lang/IllegalArgumentException" ∧ μ2 = μ) := by
  refine pm_CT_of (lo := [some (.ref 0), some (.int x)]) (by decide +kernel) rfl rfl (by intro v hv; simp at hv; rcases hv with rfl | rfl <;> rfl) (Nat.le_of_ble_eq_true rfl) rfl ?_
  have hm1 := lr_mh hG; have hm2 := lr_mw hG; have hm3 := lr_mp hG; have hm4 := lr_mr hG; have hm5 := lr_ma hG; have hm6 := lr_ml hG
  refine pm_bl [(.iload_n 1, 1, 1, 0, 0)] (pc1 := 1) (lo1 := [some (.ref 0), some (.int x)]) (st1 := [.int x]) (μ1 := μ) (vc := True) rfl (by decide +kernel) rfl trivial ?_
  refine pm_tswO 182 (by decide +kernel) (ho) (by decide) ?_
  exact pm_throwW (is := 336) (tx := "there is no such account") pm_exIA rfl (by decide +kernel) rfl (by decide +kernel) (by decide +kernel) (by decide +kernel) (by decide +kernel) (by decide +kernel) (by decide) (by decide) (⟨rfl, rfl⟩)
set_option maxHeartbeats 4000000 in
set_option maxRecDepth 100000 in
theorem c_X9_returned_no {g : Nat → Int32} {x : Int32} (μ : pm_Mm) (hR : lr_Rel μ.1 1 g) (hG : lr_G g) (hl : lr_in x 1 4 = false) : pm_CT mi_X9_returned [.ref 0, .int x] μ (fun _ _ => False) (fun E μ2 => E = "java/lang/IllegalArgumentException" ∧ μ2 = μ) := by
  refine pm_CT_of (lo := [some (.ref 0), some (.int x)]) (by decide +kernel) rfl rfl (by intro v hv; simp at hv; rcases hv with rfl | rfl <;> rfl) (Nat.le_of_ble_eq_true rfl) rfl ?_
  have hm1 := lr_mh hG; have hm2 := lr_mw hG; have hm3 := lr_mp hG; have hm4 := lr_mr hG; have hm5 := lr_ma hG; have hm6 := lr_ml hG
  refine pm_bl [(.iload_n 1, 1, 1, 0, 0), (.iconst 1, 1, 0, 0, 1), (.iconst 4, 1, 0, 0, 4)] (pc1 := 3) (lo1 := [some (.ref 0), some (.int x)]) (st1 := [.int 4, .int 1, .int x]) (μ1 := μ) (vc := True) rfl (by decide +kernel) rfl trivial ?_
  refine pm_callS2 mi_X9_isBetween (ix := 102) (kc2 := 0) (ks2 := 0) (As := [.int x, .int 1, .int 4]) (rest := []) (c_X9_isBetween x 1 4 μ) cal_X9_isBetween lk9_102 (by decide +kernel) rfl (by decide +kernel) rfl rfl (Nat.le_of_ble_eq_true rfl) (by decide) (by decide) (fun _ _ h9 => h9.elim) ?_
  rintro _ _ ⟨rfl, h9⟩; rw [h9]; clear h9
  show pm_V _ _ _ _ 6 _ [.int (lr_b (lr_in x 1 4))] _
  refine pm_ifb_ne (off := 14) 20 (by decide +kernel) (by decide) (fun (h9 : (lr_in x 1 4) = true) => absurd (hl.symm.trans h9) (by decide)) (fun (h6 : (lr_in x 1 4) = false) => ?_)
  exact pm_throwW (is := 338) (tx := "there is no such reason") pm_exIA rfl (by decide +kernel) rfl (by decide +kernel) (by decide +kernel) (by decide +kernel) (by decide +kernel) (by decide +kernel) (by decide) (by decide) (⟨rfl, rfl⟩)
set_option maxHeartbeats 4000000 in
set_option maxRecDepth 100000 in
theorem c_X9_returned {g : Nat → Int32} {x : Int32} (μ : pm_Mm) (hR : lr_Rel μ.1 1 g) (hG : lr_G g) (hl : lr_in x 1 4 = true) : pm_CT mi_X9_returned [.ref 0, .int x] μ (fun v μ2 => v = some (.int (lr_crs g x)) ∧ μ2 = μ) pm_NX := by
  refine pm_CT_of (lo := [some (.ref 0), some (.int x)]) (by decide +kernel) rfl rfl (by intro v hv; simp at hv; rcases hv with rfl | rfl <;> rfl) (Nat.le_of_ble_eq_true rfl) rfl ?_
  have hm1 := lr_mh hG; have hm2 := lr_mw hG; have hm3 := lr_mp hG; have hm4 := lr_mr hG; have hm5 := lr_ma hG; have hm6 := lr_ml hG
  refine pm_bl [(.iload_n 1, 1, 1, 0, 0), (.iconst 1, 1, 0, 0, 1), (.iconst 4, 1, 0, 0, 4)] (pc1 := 3) (lo1 := [some (.ref 0), some (.int x)]) (st1 := [.int 4, .int 1, .int x]) (μ1 := μ) (vc := True) rfl (by decide +kernel) rfl trivial ?_
  refine pm_callS2 mi_X9_isBetween (ix := 102) (kc2 := 0) (ks2 := 0) (As := [.int x, .int 1, .int 4]) (rest := []) (c_X9_isBetween x 1 4 μ) cal_X9_isBetween lk9_102 (by decide +kernel) rfl (by decide +kernel) rfl rfl (Nat.le_of_ble_eq_true rfl) (by decide) (by decide) (fun _ _ h9 => h9.elim) ?_
  rintro _ _ ⟨rfl, h9⟩; rw [h9]; clear h9
  show pm_V _ _ _ _ 6 _ [.int (lr_b (lr_in x 1 4))] _
  refine pm_ifb_ne (off := 14) 20 (by decide +kernel) (by decide) (fun (h6 : (lr_in x 1 4) = true) => ?_) (fun (h9 : (lr_in x 1 4) = false) => absurd (hl.symm.trans h9) (by decide))
  refine pm_bl [(.aload_n 0, 1, 0, 0, 0), (.getfield 10, 3, 9, 0, 0), (.getfield 235, 3, 5, 5, 0), (.iload_n 1, 1, 1, 0, 0)] (pc1 := 28) (lo1 := [some (.ref 0), some (.int x)]) (st1 := [.int x, .ref 26]) (μ1 := μ) (vc := True) rfl (by decide +kernel) rfl trivial ?_
  refine pm_callV2 mi_X4_countReturnedFor (ix := 340) (b := 26) (ci := 4) (kc2 := 0) (ks2 := 0) (As := [.int x]) (rest := []) (c_X4_countReturnedFor x μ hR hG) cal_X4_countReturnedFor lk9_340 (by decide +kernel) rfl (by decide +kernel) rfl rfl rfl rfl (Nat.le_of_ble_eq_true rfl) (by decide) (by decide) (fun _ _ h9 => h9.elim) ?_
  rintro _ _ ⟨rfl, h9⟩; rw [h9]; clear h9
  show pm_V _ _ _ _ 31 _ [.int (lr_crs g x)] _
  exact pm_iret (ty := .int) rfl rfl (by decide) (by decide) (by decide +kernel) (⟨rfl, rfl⟩)
set_option maxHeartbeats 4000000 in
set_option maxRecDepth 100000 in
theorem c_X9_meanDays_no {g : Nat → Int32} (μ : pm_Mm) (hR : lr_Rel μ.1 1 g) (hG : lr_G g) (hz : lr_n g 1 = 0) : pm_CT mi_X9_meanDays [.ref 0] μ (fun _ _ => False) (fun E μ2 => E = "java/lang/ArithmeticException" ∧ μ2 = μ) := by
  refine pm_CT_of (lo := [some (.ref 0), none]) (by decide +kernel) rfl rfl (by intro v hv; simp at hv; rcases hv with rfl <;> rfl) (Nat.le_of_ble_eq_true rfl) rfl ?_
  have hm1 := lr_mh hG; have hm2 := lr_mw hG; have hm3 := lr_mp hG; have hm4 := lr_mr hG; have hm5 := lr_ma hG; have hm6 := lr_ml hG
  refine pm_bl [(.aload_n 0, 1, 0, 0, 0), (.getfield 10, 3, 9, 0, 0), (.getfield 235, 3, 5, 5, 0), (.getfield 304, 3, 4, 1, 0)] (pc1 := 10) (lo1 := [some (.ref 0), none]) (st1 := [.int (μ.1 26 1)]) (μ1 := μ) (vc := True) rfl (by decide +kernel) rfl trivial ?_
  rw [lr_rD hR, lr_gD hG]
  refine pm_bl [(.istore_n 1, 1, 1, 0, 0), (.iload_n 1, 1, 1, 0, 0)] (pc1 := 12) (lo1 := [some (.ref 0), some (.int (nI (lr_n g 1)))]) (st1 := [.int (nI (lr_n g 1))]) (μ1 := μ) (vc := True) rfl (by decide +kernel) rfl trivial ?_
  refine pm_if_ne (off := 14) 26 (by decide +kernel) (by decide) (fun (h9 : ¬ (nI (lr_n g 1)) = 0) => absurd (by rw [hz]; rfl) h9) (fun (h12 : (nI (lr_n g 1)) = 0) => ?_)
  exact pm_throwW (is := 345) (tx := "no letter was delivered") pm_exAR rfl (by decide +kernel) rfl (by decide +kernel) (by decide +kernel) (by decide +kernel) (by decide +kernel) (by decide +kernel) (by decide) (by decide) (⟨rfl, rfl⟩)
set_option maxHeartbeats 4000000 in
set_option maxRecDepth 100000 in
theorem c_X9_meanDays {g : Nat → Int32} (μ : pm_Mm) (hR : lr_Rel μ.1 1 g) (hG : lr_G g) (hz : 0 < lr_n g 1) : pm_CT mi_X9_meanDays [.ref 0] μ (fun v μ2 => v = some (.double (FP.ddiv (FP.i2d (lr_dtd g)) (FP.i2d (nI (lr_n g 1))))) ∧ μ2 = μ) pm_NX := by
  refine pm_CT_of (lo := [some (.ref 0), none]) (by decide +kernel) rfl rfl (by intro v hv; simp at hv; rcases hv with rfl <;> rfl) (Nat.le_of_ble_eq_true rfl) rfl ?_
  have hm1 := lr_mh hG; have hm2 := lr_mw hG; have hm3 := lr_mp hG; have hm4 := lr_mr hG; have hm5 := lr_ma hG; have hm6 := lr_ml hG
  have mD := lr_mD hG
  refine pm_bl [(.aload_n 0, 1, 0, 0, 0), (.getfield 10, 3, 9, 0, 0), (.getfield 235, 3, 5, 5, 0), (.getfield 304, 3, 4, 1, 0)] (pc1 := 10) (lo1 := [some (.ref 0), none]) (st1 := [.int (μ.1 26 1)]) (μ1 := μ) (vc := True) rfl (by decide +kernel) rfl trivial ?_
  rw [lr_rD hR, lr_gD hG]
  refine pm_bl [(.istore_n 1, 1, 1, 0, 0), (.iload_n 1, 1, 1, 0, 0)] (pc1 := 12) (lo1 := [some (.ref 0), some (.int (nI (lr_n g 1)))]) (st1 := [.int (nI (lr_n g 1))]) (μ1 := μ) (vc := True) rfl (by decide +kernel) rfl trivial ?_
  refine pm_if_ne (off := 14) 26 (by decide +kernel) (by decide) (fun (h12 : ¬ (nI (lr_n g 1)) = 0) => ?_) (fun (h9 : (nI (lr_n g 1)) = 0) => absurd h9 (nI_ne0 hz (by omega)))
  refine pm_bl [(.aload_n 0, 1, 0, 0, 0), (.getfield 10, 3, 9, 0, 0), (.getfield 235, 3, 5, 5, 0)] (pc1 := 33) (lo1 := [some (.ref 0), some (.int (nI (lr_n g 1)))]) (st1 := [.ref 26]) (μ1 := μ) (vc := True) rfl (by decide +kernel) rfl trivial ?_
  refine pm_callV2 mi_X4_daysToDeliveries (ix := 348) (b := 26) (ci := 4) (kc2 := 0) (ks2 := 0) (As := []) (rest := []) (c_X4_daysToDeliveries μ hR hG) cal_X4_daysToDeliveries lk9_348 (by decide +kernel) rfl (by decide +kernel) rfl rfl rfl rfl (Nat.le_of_ble_eq_true rfl) (by decide) (by decide) (fun _ _ h9 => h9.elim) ?_
  rintro _ _ ⟨rfl, h9⟩; rw [h9]; clear h9
  show pm_V _ _ _ _ 36 _ [.int (lr_dtd g)] _
  refine pm_s_i2d (by decide +kernel) ?_
  refine pm_bl [(.iload_n 1, 1, 1, 0, 0)] (pc1 := 38) (lo1 := [some (.ref 0), some (.int (nI (lr_n g 1)))]) (st1 := [.int (nI (lr_n g 1)), .double (FP.i2d (lr_dtd g))]) (μ1 := μ) (vc := True) rfl (by decide +kernel) rfl trivial ?_
  refine pm_s_i2d (by decide +kernel) ?_
  refine pm_s_ddiv (by decide +kernel) (lr_dnan (nI_ne0 hz (by omega))) ?_
  exact pm_dret rfl (by decide) (by decide) (by decide +kernel) (⟨rfl, rfl⟩)
set_option maxHeartbeats 4000000 in
set_option maxRecDepth 100000 in
theorem c_X9_undo_no {g : Nat → Int32} (μ : pm_Mm) (hR : lr_Rel μ.1 1 g) (hG : lr_G g) (hc : μ.1 45 0 = 0) : pm_CT mi_X9_undo [.ref 0] μ (fun _ _ => False) (fun E μ2 => E = "java/lang/IllegalStateException" ∧ μ2 = μ) := by
  refine pm_CT_of (lo := [some (.ref 0)]) (by decide +kernel) rfl rfl (by intro v hv; simp at hv; rcases hv with rfl <;> rfl) (Nat.le_of_ble_eq_true rfl) rfl ?_
  have hm1 := lr_mh hG; have hm2 := lr_mw hG; have hm3 := lr_mp hG; have hm4 := lr_mr hG; have hm5 := lr_ma hG; have hm6 := lr_ml hG
  refine pm_bl [(.aload_n 0, 1, 0, 0, 0), (.getfield 19, 3, 9, 1, 0), (.getfield 351, 3, 2, 0, 0)] (pc1 := 7) (lo1 := [some (.ref 0)]) (st1 := [.int (μ.1 45 0)]) (μ1 := μ) (vc := True) rfl (by decide +kernel) rfl trivial ?_
  rw [hc]
  refine pm_if_ne (off := 14) 21 (by decide +kernel) (by decide) (fun h9 => absurd h9 (by decide)) (fun _ => ?_)
  exact pm_throwW (is := 352) (tx := "no change is kept") pm_exIS rfl (by decide +kernel) rfl (by decide +kernel) (by decide +kernel) (by decide +kernel) (by decide +kernel) (by decide +kernel) (by decide) (by decide) (⟨rfl, rfl⟩)
set_option maxHeartbeats 4000000 in
set_option maxRecDepth 100000 in
theorem c_X9_undo {c n : Nat} {F : Nat → Nat → Int32} (μ : pm_Mm) (hH : lr_Hs μ.1 (c + 1) n F) (hB : lr_B (F c)) : pm_CT mi_X9_undo [.ref 0] μ (fun v μ2 => v = some (.int (nI c)) ∧ lr_fc μ μ2 ∧ lr_Rel μ2.1 1 (F c) ∧ lr_Hs μ2.1 c ((n + 7) % 8) F) pm_NX := by
  refine pm_CT_of (lo := [some (.ref 0)]) (by decide +kernel) rfl rfl (by intro v hv; simp at hv; rcases hv with rfl; rfl) (Nat.le_of_ble_eq_true rfl) rfl ?_
  have hc8 := hH.1
  refine pm_bl [(.aload_n 0, 1, 0, 0, 0), (.getfield 19, 3, 9, 1, 0), (.getfield 351, 3, 2, 0, 0)] (pc1 := 7) (lo1 := [some (.ref 0)]) (st1 := [.int (μ.1 45 0)]) (μ1 := μ) (vc := True) rfl (by decide +kernel) rfl trivial ?_
  rw [hH.2.2.1]
  refine pm_if_ne (off := 14) 21 (by decide +kernel) (by decide) (fun (h7 : ¬ (nI (c + 1)) = 0) => ?_) (fun (h9 : (nI (c + 1)) = 0) => absurd h9 (nI_ne0 (by omega) (by omega)))
  refine pm_bl [(.aload_n 0, 1, 0, 0, 0), (.getfield 19, 3, 9, 1, 0), (.aload_n 0, 1, 0, 0, 0), (.getfield 10, 3, 9, 0, 0)] (pc1 := 29) (lo1 := [some (.ref 0)]) (st1 := [.ref 1, .ref 45]) (μ1 := μ) (vc := True) rfl (by decide +kernel) rfl trivial ?_
  refine pm_callV2 mi_X2_takeBack (ix := 354) (b := 45) (ci := 2) (kc2 := 0) (ks2 := 0) (As := [.ref 1]) (rest := []) (c_X2_takeBack (g := F c) (c := c) (n := n) μ hH.2.1 (by have q := hH.2.2.2.2 c (by omega); rw [show (n + 8 - (c + 1) + c) % 8 = (n + 7) % 8 from by omega] at q; exact q) hB hH.2.2.2.1 hH.2.2.1) cal_X2_takeBack lk9_354 (by decide +kernel) rfl (by decide +kernel) rfl rfl rfl rfl (Nat.le_of_ble_eq_true rfl) (by decide) (by decide) (fun _ _ h9 => h9.elim) ?_
  rintro _ μ1 ⟨rfl, h2k, hfk, hRk, hck, hnk⟩
  obtain ⟨hFC, hH1⟩ := lr_back_ok hH h2k hfk hck hnk
  show pm_V _ _ _ _ 32 _ [] _
  refine pm_bl [(.aload_n 0, 1, 0, 0, 0), (.getfield 19, 3, 9, 1, 0), (.getfield 351, 3, 2, 0, 0)] (pc1 := 39) (lo1 := [some (.ref 0)]) (st1 := [.int (μ1.1 45 0)]) (μ1 := μ1) (vc := True) rfl (by decide +kernel) rfl trivial ?_
  rw [hck]
  exact pm_iret (ty := .int) rfl rfl (by decide) (by decide) (by decide +kernel) (⟨rfl, hFC, hRk, hH1⟩)
set_option maxHeartbeats 4000000 in
set_option maxRecDepth 100000 in
theorem c_X9_save {g : Nat → Int32} (μ : pm_Mm) (hR : lr_Rel μ.1 1 g) (hG : lr_G g) : pm_CT mi_X9_save [.ref 0] μ (fun v μ2 => v = none ∧ ∃ M, (∀ i, (i < 57 ∨ 95 < i) → M.1 i = μ.1 i) ∧ M.2 = μ.2 ∧ lr_Rel M.1 57 g ∧ μ2 = pm_set M 0 3 1) pm_NX := by
  refine pm_CT_of (lo := [some (.ref 0)]) (by decide +kernel) rfl rfl (by intro v hv; simp at hv; rcases hv with rfl <;> rfl) (Nat.le_of_ble_eq_true rfl) rfl ?_
  have hm1 := lr_mh hG; have hm2 := lr_mw hG; have hm3 := lr_mp hG; have hm4 := lr_mr hG; have hm5 := lr_ma hG; have hm6 := lr_ml hG
  refine pm_bl [(.aload_n 0, 1, 0, 0, 0), (.getfield 23, 3, 9, 2, 0), (.aload_n 0, 1, 0, 0, 0), (.getfield 10, 3, 9, 0, 0)] (pc1 := 8) (lo1 := [some (.ref 0)]) (st1 := [.ref 1, .ref 57]) (μ1 := μ) (vc := True) rfl (by decide +kernel) rfl trivial ?_
  refine pm_callV2 mi_X5_copyFrom (ix := 357) (b := 57) (ci := 5) (kc2 := 0) (ks2 := 0) (As := [.ref 1]) (rest := []) (c_X5_copyFrom_57_1 μ hR hG.B) cal_X5_copyFrom lk9_357 (by decide +kernel) rfl (by decide +kernel) rfl rfl rfl rfl (Nat.le_of_ble_eq_true rfl) (by decide) (by decide) (fun _ _ h9 => h9.elim) ?_
  rintro _ μ1 ⟨rfl, h2k, hfk, hRk⟩
  show pm_V _ _ _ _ 11 _ [] _
  refine pm_bl [(.aload_n 0, 1, 0, 0, 0), (.iconst 1, 1, 0, 0, 1), (.putfield 26, 3, 9, 3, 1)] (pc1 := 16) (lo1 := [some (.ref 0)]) (st1 := []) (μ1 := pm_set μ1 0 3 1) (vc := (1 = 0 ∨ 1 = 1) ∧ True) rfl (by decide +kernel) rfl ⟨(by first | exact Or.inl rfl | exact Or.inr rfl), trivial⟩ ?_
  exact pm_vret rfl (by decide) (by decide) (by decide +kernel) (⟨rfl, μ1, hfk, h2k, hRk, rfl⟩)
set_option maxHeartbeats 4000000 in
set_option maxRecDepth 100000 in
theorem c_X9_restore_no {k : Nat → Int32} (μ : pm_Mm) (hs : μ.1 0 3 = 0) : pm_CT mi_X9_restore [.ref 0] μ (fun _ _ => False) (fun E μ2 => E = "java/lang/IllegalStateException" ∧ μ2 = μ) := by
  refine pm_CT_of (lo := [some (.ref 0)]) (by decide +kernel) rfl rfl (by intro v hv; simp at hv; rcases hv with rfl; rfl) (Nat.le_of_ble_eq_true rfl) rfl ?_
  refine pm_bl [(.aload_n 0, 1, 0, 0, 0), (.getfield 26, 3, 9, 3, 0)] (pc1 := 4) (lo1 := [some (.ref 0)]) (st1 := [.int (μ.1 0 3)]) (μ1 := μ) (vc := True) rfl (by decide +kernel) rfl trivial ?_
  rw [hs]
  refine pm_if_ne (off := 14) 18 (by decide +kernel) (by decide) (fun h9 => absurd h9 (by decide)) (fun _ => ?_)
  exact pm_throwW (is := 360) (tx := "there is no snapshot") pm_exIS rfl (by decide +kernel) rfl (by decide +kernel) (by decide +kernel) (by decide +kernel) (by decide +kernel) (by decide +kernel) (by decide) (by decide) (⟨rfl, rfl⟩)
set_option maxHeartbeats 4000000 in
set_option maxRecDepth 100000 in
theorem c_X9_restore {k : Nat → Int32} (μ : pm_Mm) (hs : μ.1 0 3 = 1) (hR : lr_Rel μ.1 57 k) (hB : lr_B k) : pm_CT mi_X9_restore [.ref 0] μ (fun v μ2 => v = none ∧ ∃ M, (∀ i, (i < 1 ∨ 39 < i) → M.1 i = μ.1 i) ∧ M.2 = μ.2 ∧ lr_Rel M.1 1 k ∧ μ2 = pm_set M 45 0 0) pm_NX := by
  refine pm_CT_of (lo := [some (.ref 0)]) (by decide +kernel) rfl rfl (by intro v hv; simp at hv; rcases hv with rfl; rfl) (Nat.le_of_ble_eq_true rfl) rfl ?_
  refine pm_bl [(.aload_n 0, 1, 0, 0, 0), (.getfield 26, 3, 9, 3, 0)] (pc1 := 4) (lo1 := [some (.ref 0)]) (st1 := [.int (μ.1 0 3)]) (μ1 := μ) (vc := True) rfl (by decide +kernel) rfl trivial ?_
  rw [hs]
  refine pm_if_ne (off := 14) 18 (by decide +kernel) (by decide) (fun _ => ?_) (fun h9 => absurd h9 (by decide))
  refine pm_bl [(.aload_n 0, 1, 0, 0, 0), (.getfield 10, 3, 9, 0, 0), (.aload_n 0, 1, 0, 0, 0), (.getfield 23, 3, 9, 2, 0)] (pc1 := 26) (lo1 := [some (.ref 0)]) (st1 := [.ref 57, .ref 1]) (μ1 := μ) (vc := True) rfl (by decide +kernel) rfl trivial ?_
  refine pm_callV2 mi_X5_copyFrom (ix := 357) (b := 1) (ci := 5) (kc2 := 0) (ks2 := 0) (As := [.ref 57]) (rest := []) (c_X5_copyFrom_1_57 μ hR hB) cal_X5_copyFrom lk9_357 (by decide +kernel) rfl (by decide +kernel) rfl rfl rfl rfl (Nat.le_of_ble_eq_true rfl) (by decide) (by decide) (fun _ _ h9 => h9.elim) ?_
  rintro _ μ1 ⟨rfl, h2k, hfk, hRk⟩
  show pm_V _ _ _ _ 29 _ [] _
  refine pm_bl [(.aload_n 0, 1, 0, 0, 0), (.getfield 19, 3, 9, 1, 0)] (pc1 := 33) (lo1 := [some (.ref 0)]) (st1 := [.ref 45]) (μ1 := μ1) (vc := True) rfl (by decide +kernel) rfl trivial ?_
  refine pm_callV2 mi_X2_forget (ix := 362) (b := 45) (ci := 2) (kc2 := 0) (ks2 := 0) (As := []) (rest := []) (c_X2_forget μ1) cal_X2_forget lk9_362 (by decide +kernel) rfl (by decide +kernel) rfl rfl rfl rfl (Nat.le_of_ble_eq_true rfl) (by decide) (by decide) (fun _ _ h9 => h9.elim) ?_
  rintro _ _ ⟨rfl, h9⟩; rw [h9]; clear h9
  show pm_V _ _ _ _ 36 _ [] _
  exact pm_vret rfl (by decide) (by decide) (by decide +kernel) (⟨rfl, μ1, hfk, h2k, hRk, rfl⟩)
set_option maxHeartbeats 4000000 in
set_option maxRecDepth 100000 in
theorem c_X9_faultPosition {g : Nat → Int32} (μ : pm_Mm) (hR : lr_Rel μ.1 1 g) (hG : lr_G g) : pm_CT mi_X9_faultPosition [.ref 0] μ (fun v μ2 => v = some (.int (μ.1 0 5)) ∧ μ2 = μ) pm_NX := by
  refine pm_CT_of (lo := [some (.ref 0)]) (by decide +kernel) rfl rfl (by intro v hv; simp at hv; rcases hv with rfl <;> rfl) (Nat.le_of_ble_eq_true rfl) rfl ?_
  have hm1 := lr_mh hG; have hm2 := lr_mw hG; have hm3 := lr_mp hG; have hm4 := lr_mr hG; have hm5 := lr_ma hG; have hm6 := lr_ml hG
  refine pm_bl [(.aload_n 0, 1, 0, 0, 0), (.getfield 37, 3, 9, 5, 0)] (pc1 := 4) (lo1 := [some (.ref 0)]) (st1 := [.int (μ.1 0 5)]) (μ1 := μ) (vc := True) rfl (by decide +kernel) rfl trivial ?_
  exact pm_iret (ty := .int) rfl rfl (by decide) (by decide) (by decide +kernel) (⟨rfl, rfl⟩)
set_option maxHeartbeats 4000000 in
set_option maxRecDepth 100000 in
theorem c_X9_refusal_no {g : Nat → Int32} (μ : pm_Mm) (hR : lr_Rel μ.1 1 g) (hG : lr_G g) (hr : μ.1 0 6 = -1) : pm_CT mi_X9_refusal [.ref 0] μ (fun _ _ => False) (fun E μ2 => E = "java/util/NoSuchElementException" ∧ μ2 = μ) := by
  refine pm_CT_of (lo := [some (.ref 0)]) (by decide +kernel) rfl rfl (by intro v hv; simp at hv; rcases hv with rfl <;> rfl) (Nat.le_of_ble_eq_true rfl) rfl ?_
  have hm1 := lr_mh hG; have hm2 := lr_mw hG; have hm3 := lr_mp hG; have hm4 := lr_mr hG; have hm5 := lr_ma hG; have hm6 := lr_ml hG
  refine pm_bl [(.aload_n 0, 1, 0, 0, 0), (.getfield 41, 3, 9, 6, 0)] (pc1 := 4) (lo1 := [some (.ref 0)]) (st1 := [.int (μ.1 0 6)]) (μ1 := μ) (vc := True) rfl (by decide +kernel) rfl trivial ?_
  refine pm_bl [(.iconst (-1), 1, 0, 0, (-1))] (pc1 := 5) (lo1 := [some (.ref 0)]) (st1 := [.int (-1), .int (μ.1 0 6)]) (μ1 := μ) (vc := True) rfl (by decide +kernel) rfl trivial ?_
  refine pm_icmp_ne (off := 14) 19 (by decide +kernel) (by decide) (fun (h9 : ¬ (μ.1 0 6) = (-1)) => absurd hr h9) (fun (h5 : (μ.1 0 6) = (-1)) => ?_)
  exact pm_throwXW (is := 280) (tx := "no call was refused") pm_exNS rfl (by decide +kernel) rfl (by decide +kernel) (by decide +kernel) (by decide +kernel) (by decide +kernel) (by decide +kernel) (by decide) (by decide) (⟨rfl, rfl⟩)
set_option maxHeartbeats 4000000 in
set_option maxRecDepth 100000 in
theorem c_X9_refusal {g : Nat → Int32} (μ : pm_Mm) (hR : lr_Rel μ.1 1 g) (hG : lr_G g) (hr : ¬ μ.1 0 6 = -1) : pm_CT mi_X9_refusal [.ref 0] μ (fun v μ2 => v = some (.int (μ.1 0 6)) ∧ μ2 = μ) pm_NX := by
  refine pm_CT_of (lo := [some (.ref 0)]) (by decide +kernel) rfl rfl (by intro v hv; simp at hv; rcases hv with rfl <;> rfl) (Nat.le_of_ble_eq_true rfl) rfl ?_
  have hm1 := lr_mh hG; have hm2 := lr_mw hG; have hm3 := lr_mp hG; have hm4 := lr_mr hG; have hm5 := lr_ma hG; have hm6 := lr_ml hG
  refine pm_bl [(.aload_n 0, 1, 0, 0, 0), (.getfield 41, 3, 9, 6, 0)] (pc1 := 4) (lo1 := [some (.ref 0)]) (st1 := [.int (μ.1 0 6)]) (μ1 := μ) (vc := True) rfl (by decide +kernel) rfl trivial ?_
  refine pm_bl [(.iconst (-1), 1, 0, 0, (-1))] (pc1 := 5) (lo1 := [some (.ref 0)]) (st1 := [.int (-1), .int (μ.1 0 6)]) (μ1 := μ) (vc := True) rfl (by decide +kernel) rfl trivial ?_
  refine pm_icmp_ne (off := 14) 19 (by decide +kernel) (by decide) (fun (h5 : ¬ (μ.1 0 6) = (-1)) => ?_) (fun (h9 : (μ.1 0 6) = (-1)) => absurd h9 hr)
  refine pm_bl [(.aload_n 0, 1, 0, 0, 0), (.getfield 41, 3, 9, 6, 0)] (pc1 := 23) (lo1 := [some (.ref 0)]) (st1 := [.int (μ.1 0 6)]) (μ1 := μ) (vc := True) rfl (by decide +kernel) rfl trivial ?_
  exact pm_iret (ty := .int) rfl rfl (by decide) (by decide) (by decide +kernel) (⟨rfl, rfl⟩)
