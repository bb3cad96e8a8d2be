/-! what the start gives -/
def go_F : List Cond := flatC (Cond.and given_1 narrow_1)
theorem go_tab {args : Array Value} {s : State} {w : Cond} {i : Nat} (hts : ∀ w ∈ lw_tbl, w.before args s = true) (h : tables_1[i]? = some w) : w.before args s = true := hts w (List.mem_append_right _ (List.mem_of_getElem? h))
theorem go_fl {args : Array Value} {s : State} {w : Cond} {i : Nat} (hgv : (Cond.and given_1 narrow_1).before args s = true) (h : go_F[i]? = some w) : w.before args s = true := flat_of_before _ hgv w (List.mem_of_getElem? h)
theorem go_sel {y z : MethodName} {C : String} {s : State} {args : Array Value} {n : Nat} (hy : y.cls ≠ "java/lang/invoke/MethodHandle" ∧ y.cls ≠ "java/lang/invoke/VarHandle")
    (hins : (Cond.instantiable C n).before args s = true) (hpriv : (Cond.privateMethod y).before args s = true) (hinst : (Cond.instanceMethod y).before args s = true) (hz : (Cond.selects C z z).before args s = true) (hzy : z.cls = y.cls) :
    (Cond.selects C y y).before args s = true := by
  obtain ⟨c, k, hc, hk, -, hniab, -, -⟩ := Cond.instantiable_spec hins
  have hni : k.isInterface = false := (Bool.or_eq_false_iff.mp hniab).1
  obtain ⟨mk, methM, hnamed, hmethM, -, -⟩ := Cond.instanceMethod_spec hinst
  have hfound : s.methodFound? y.cls y.name y.desc = some mk := State.methodFound?_of_named hnamed hy
  have hsel : selectMethod {} s.vm c mk = .method mk := selectMethod_private hmethM (Cond.privateMethod_at hpriv mk methM hnamed hmethM)
  obtain ⟨c2, r2, m2, -, -, g3, -, k2, g5, g6⟩ := Cond.selects_spec (args := args) (first := s) (o := none) (s := s) (idx := []) hz
  have e1 := findClass_of_methodNamed g3
  rw [hzy] at e1
  have e2 : m2.cls = mk.cls := Option.some.inj (e1.symm.trans (findClass_of_methodNamed hnamed))
  rw [e2] at g5
  simp only [Cond.before, Cond.holds, Cond.value, hc, hfound, hnamed, hsel, hk, g5]
  simp [g6]
theorem go_good {args : Array Value} {s : State} (hts : ∀ w ∈ lw_tbl, w.before args s = true) : ∀ w ∈ pm_good, w.before args s = true := by
  intro w hw
  rcases List.mem_append.mp (List.mem_filter.mp hw).1 with h | h
  · unfold pm_sbs at h
    simp only [List.mem_cons, List.not_mem_nil, or_false] at h
    rcases h with rfl | rfl
    · exact go_sel (z := ⟨"java/lang/AbstractStringBuilder", "isLatin1", "()Z"⟩) (n := 4) ⟨by decide +kernel, by decide +kernel⟩ (go_tab (i := 952) hts (by decide +kernel)) (go_tab (i := 989) hts (by decide +kernel)) (go_tab (i := 990) hts (by decide +kernel)) (go_tab (i := 1022) hts (by decide +kernel)) rfl
    · exact go_sel (z := ⟨"java/lang/AbstractStringBuilder", "isLatin1", "()Z"⟩) (n := 4) ⟨by decide +kernel, by decide +kernel⟩ (go_tab (i := 952) hts (by decide +kernel)) (go_tab (i := 993) hts (by decide +kernel)) (go_tab (i := 994) hts (by decide +kernel)) (go_tab (i := 1022) hts (by decide +kernel)) rfl
  · exact hts w h
set_option maxHeartbeats 4000000 in
set_option maxRecDepth 100000 in
theorem go_stl : ∀ q ∈ pm_stl, Cond.stringRef q.1 q.2.1 q.2.2 ∈ tables_1 ∧ Cond.exactly (.string q.1 q.2.1) "java/lang/String" ∈ go_F := by decide +kernel
set_option maxHeartbeats 4000000 in
set_option maxRecDepth 100000 in
theorem go_nwl : ∀ q ∈ pm_nwl, Cond.methodLinkNest q.1 q.2.1 q.2.2.1 q.2.2.2 ∈ tables_1 := by decide +kernel
set_option maxHeartbeats 4000000 in
set_option maxRecDepth 100000 in
theorem go_csl : ∀ q ∈ pm_csl, Cond.castable q.1 q.2 ∈ tables_1 := by decide +kernel
set_option maxHeartbeats 4000000 in
set_option maxRecDepth 100000 in
theorem go_dcl : ∀ q ∈ pm_dcl, Cond.declares q ∈ tables_1 := by decide +kernel
set_option maxHeartbeats 4000000 in
set_option maxRecDepth 100000 in
theorem go_ncl : ∀ q ∈ pm_ncl, Cond.not (.castable q.1 q.2) ∈ go_F := by decide +kernel
set_option maxHeartbeats 4000000 in
set_option maxRecDepth 100000 in
theorem go_ones : ∀ j, j < 100 → go_F[14 + j]? = some (Cond.eq (.elem (.static RJ6 "DigitOnes" "[B") (.int (Int32.ofNat j))) (.int (nI (48 + j % 10)))) := by decide +kernel
set_option maxHeartbeats 4000000 in
set_option maxRecDepth 100000 in
theorem go_tens : ∀ j, j < 100 → go_F[117 + j]? = some (Cond.eq (.elem (.static RJ6 "DigitTens" "[B") (.int (Int32.ofNat j))) (.int (nI (48 + j / 10)))) := by decide +kernel
set_option maxHeartbeats 4000000 in
set_option maxRecDepth 100000 in
theorem go_j0 : ∀ w ∈ u_ws RJ0 TJ0 2, w ∈ pm_good := fun w hw => pm_good_in (List.mem_append_right _ (by rw [show u_ws RJ0 TJ0 2 = [539, 541].filterMap (fun i => tables_1[i]?) by decide +kernel] at hw; obtain ⟨i, -, hi⟩ := List.mem_filterMap.mp hw; exact List.mem_of_getElem? hi)) (List.all_eq_true.mp (show (u_ws RJ0 TJ0 2).all goodWord = true by decide +kernel) w hw)
set_option maxHeartbeats 4000000 in
set_option maxRecDepth 100000 in
theorem go_K {args : Array Value} {s : State} (hts : ∀ w ∈ lw_tbl, w.before args s = true) : ∃ (D : va_G) (tc : Nat → ClassId), va_K D pm_cl (pm_tys tc) s := by
  have hg := go_good hts
  obtain ⟨c0, i0, h0⟩ := u_known (C := RX0) (T := TX0) (N := 4) (n := 4) hg (gm_cfx pm_cf0 rfl).1 (go_tab (i := 151) hts (by decide +kernel))
  obtain ⟨c1, i1, h1⟩ := u_known (C := RX1) (T := TX1) (N := 7) (n := 7) hg (gm_cfx pm_cf1 rfl).1 (go_tab (i := 283) hts (by decide +kernel))
  obtain ⟨c2, i2, h2⟩ := u_known (C := RX2) (T := TX2) (N := 3) (n := 3) hg (gm_cfx pm_cf2 rfl).1 (go_tab (i := 263) hts (by decide +kernel))
  obtain ⟨c3, i3, h3⟩ := u_known (C := RX3) (T := TX3) (N := 3) (n := 3) hg (gm_cfx pm_cf3 rfl).1 (go_tab (i := 49) hts (by decide +kernel))
  obtain ⟨c4, i4, h4⟩ := u_known (C := RX4) (T := TX4) (N := 14) (n := 14) hg (gm_cfx pm_cf4 rfl).1 (go_tab (i := 171) hts (by decide +kernel))
  obtain ⟨c5, i5, h5⟩ := u_known (C := RX5) (T := TX5) (N := 8) (n := 8) hg (gm_cfx pm_cf5 rfl).1 (go_tab (i := 43) hts (by decide +kernel))
  obtain ⟨c6, i6, h6⟩ := u_known (C := RX6) (T := TX6) (N := 5) (n := 5) hg (gm_cfx pm_cf6 rfl).1 (go_tab (i := 70) hts (by decide +kernel))
  obtain ⟨c7, i7, h7⟩ := u_known (C := RX7) (T := TX7) (N := 6) (n := 6) hg (gm_cfx pm_cf7 rfl).1 (go_tab (i := 125) hts (by decide +kernel))
  obtain ⟨c8, i8, h8⟩ := u_known (C := RX8) (T := TX8) (N := 6) (n := 6) hg (gm_cfx pm_cf8 rfl).1 (go_tab (i := 99) hts (by decide +kernel))
  obtain ⟨c9, i9, h9⟩ := u_known (C := RX9) (T := TX9) (N := 7) (n := 7) hg (gm_cfx pm_cf9 rfl).1 (go_tab (i := 35) hts (by decide +kernel))
  obtain ⟨c10, i10, h10⟩ := u_known (C := RX10) (T := TX10) (N := 16) (n := 16) hg (gm_cfx pm_cf10 rfl).1 (go_tab (i := 1288) hts (by decide +kernel))
  obtain ⟨c11, i11, h11⟩ := u_known (C := RJ4) (T := TJ4) (N := 4) (n := 4) hg (gm_cfx sb_cf rfl).1 (go_tab (i := 952) hts (by decide +kernel))
  obtain ⟨c12, i12, h12⟩ := u_known (C := RJ0) (T := TJ0) (N := 2) (n := 4) hg go_j0 (go_tab (i := 538) hts (by decide +kernel))
  obtain ⟨t0, k0, m0, f0, g0, e0⟩ := Cond.arrayClass_spec (type := .int) (show (Cond.arrayClass .int).holds args s none s [] = true from (go_tab (i := 68) hts (by decide +kernel)))
  obtain ⟨t1, k1, m1, f1, g1, e1⟩ := Cond.arrayClass_spec (type := .char) (show (Cond.arrayClass .char).holds args s none s [] = true from (go_tab (i := 315) hts (by decide +kernel)))
  obtain ⟨t2, k2, m2, f2, g2, e2⟩ := Cond.arrayClass_spec (type := .long) (show (Cond.arrayClass .long).holds args s none s [] = true from (go_tab (i := 1650) hts (by decide +kernel)))
  obtain ⟨t3, k3, m3, f3, g3, e3⟩ := Cond.arrayClass_spec (type := .double) (show (Cond.arrayClass .double).holds args s none s [] = true from (go_tab (i := 1651) hts (by decide +kernel)))
  obtain ⟨m4, t4, k4, f4, -, g4, e4, l4⟩ := Cond.arrayOver_spec (n := RX5) (show (Cond.arrayOver (.object RX5)).holds args s none s [] = true from (go_tab (i := 269) hts (by decide +kernel)))
  obtain ⟨t5, k5, m5, f5, g5, e5⟩ := Cond.arrayClass_spec (type := .byte) (show (Cond.arrayClass .byte).holds args s none s [] = true from (go_tab (i := 484) hts (by decide +kernel)))
  refine ⟨(fun k => [c0, c1, c2, c3, c4, c5, c6, c7, c8, c9, c10, c11, c12].getD k c0, fun k => [i0, i1, i2, i3, i4, i5, i6, i7, i8, i9, i10, i11, i12].getD k i0), fun k => [t0, t1, t2, t3, t4, t5].getD k t0, fun k q hq => ?_, fun k q hq => ?_⟩
  · match k, hq with
    | 0, hq => cases hq; exact h0
    | 1, hq => cases hq; exact h1
    | 2, hq => cases hq; exact h2
    | 3, hq => cases hq; exact h3
    | 4, hq => cases hq; exact h4
    | 5, hq => cases hq; exact h5
    | 6, hq => cases hq; exact h6
    | 7, hq => cases hq; exact h7
    | 8, hq => cases hq; exact h8
    | 9, hq => cases hq; exact h9
    | 10, hq => cases hq; exact h10
    | 11, hq => cases hq; exact h11
    | 12, hq => cases hq; exact h12
    | k + 13, hq => exact absurd (List.getElem?_eq_some_iff.mp hq).1 (by show ¬ k + 13 < 13; omega)
  · match k, hq with
    | 0, hq => cases hq; exact ⟨fun n z => ⟨fun k h => (by cases h), k0, g0, m0, e0⟩, f0⟩
    | 1, hq => cases hq; exact ⟨fun n z => ⟨fun k h => (by cases h), k1, g1, m1, e1⟩, f1⟩
    | 2, hq => cases hq; exact ⟨fun n z => ⟨fun k h => (by cases h), k2, g2, m2, e2⟩, f2⟩
    | 3, hq => cases hq; exact ⟨fun n z => ⟨fun k h => (by cases h), k3, g3, m3, e3⟩, f3⟩
    | 4, hq => cases hq; exact ⟨fun n z => ⟨fun k h => (by cases h), k4, g4, m4, e4⟩, k4, m4, g4, e4, f4, l4⟩
    | 5, hq => cases hq; exact ⟨fun n z => ⟨fun k h => (by cases h), k5, g5, m5, e5⟩, f5⟩
    | k + 6, hq => exact absurd (List.getElem?_eq_some_iff.mp hq).1 (by show ¬ k + 6 < 6; omega)
set_option maxHeartbeats 4000000 in
set_option maxRecDepth 100000 in
theorem go_St {args : Array Value} {s : State} (hts : ∀ w ∈ lw_tbl, w.before args s = true) (hgv : (Cond.and given_1 narrow_1).before args s = true) : ∃ (D : va_G) (tc : Nat → ClassId), pm_St0 s (fun q => s.heap.size ≤ q) D tc := by
  obtain ⟨D, tc, hK⟩ := go_K hts
  have hA : ∀ a : Nat, a < s.heap.size → ¬ (fun q : Nat => s.heap.size ≤ q) a := fun a h => Nat.not_le.mpr h
  have htb : ∀ w ∈ tables_1, w.before args s = true := fun w hw => hts w (List.mem_append_right _ hw)
  have hfl : ∀ w ∈ go_F, w.before args s = true := flat_of_before _ hgv
  refine ⟨D, tc, hK, fun q hq => va_Nw.of rfl (htb _ (go_nwl q hq)), fun q hq => ?_, fun q hq => va_Nw.of rfl (htb _ (go_csl q hq)), fun q hq => va_Nw.of rfl (htb _ (go_dcl q hq)), fun q hq => va_Nc.of (hfl _ (go_ncl q hq)), ?_, ?_, ?_, ?_, ?_, ?_, ?_⟩
  · obtain ⟨h1, h2⟩ := go_stl q hq
    obtain ⟨a, c, cA, kA, q1, -⟩ := Cond.exactly_spec (args := args) (first := s) (o := none) (s := s) (idx := []) (hfl _ h2)
    exact ⟨a, vk_R.of (A := args) (htb _ h1) q1⟩
  · exact vx_Zqof (args := args) (go_tab (i := 440) hts (by decide +kernel)) (go_tab (i := 12) hts (by decide +kernel)) (go_fl (i := 4) hgv (by decide +kernel)) hA
  · exact vx_Zqof (args := args) (go_tab (i := 442) hts (by decide +kernel)) (go_tab (i := 12) hts (by decide +kernel)) (go_fl (i := 5) hgv (by decide +kernel)) hA
  · exact va_AO.of (A := args) (go_tab (i := 269) hts (by decide +kernel))
  · exact va_Zof (args := args) (go_tab (i := 961) hts (by decide +kernel)) (go_tab (i := 21) hts (by decide +kernel)) (va_eqt (go_fl (i := 6) hgv (by decide +kernel))) hA
  · exact va_Zqof (args := args) (go_tab (i := 1047) hts (by decide +kernel)) (go_tab (i := 30) hts (by decide +kernel)) (go_fl (i := 7) hgv (by decide +kernel)) hA
  · obtain ⟨t, ht, hT⟩ := va_Tof (args := args) (s := s) (tm := .static RJ6 "DigitOnes" "[B") (ty := .byte) (N := 100) (f := fun j => .int (nI (48 + j % 10))) (A := fun q => s.heap.size ≤ q) (by decide) (go_fl (i := 12) hgv (by decide +kernel)) (va_eqt (go_fl (i := 13) hgv (by decide +kernel))) (fun j hj => va_eqt (go_fl hgv (go_ones j hj))) hA
    exact ⟨t, va_Zof (args := args) (go_tab (i := 1086) hts (by decide +kernel)) (go_tab (i := 32) hts (by decide +kernel)) ht hA, hT⟩
  · obtain ⟨t, ht, hT⟩ := va_Tof (args := args) (s := s) (tm := .static RJ6 "DigitTens" "[B") (ty := .byte) (N := 100) (f := fun j => .int (nI (48 + j / 10))) (A := fun q => s.heap.size ≤ q) (by decide) (go_fl (i := 115) hgv (by decide +kernel)) (va_eqt (go_fl (i := 116) hgv (by decide +kernel))) (fun j hj => va_eqt (go_fl hgv (go_tens j hj))) hA
    exact ⟨t, va_Zof (args := args) (go_tab (i := 1088) hts (by decide +kernel)) (go_tab (i := 32) hts (by decide +kernel)) ht hA, hT⟩
