/-! the model: letters -/
set_option maxHeartbeats 4000000 in
set_option maxRecDepth 100000 in
theorem c_X10_at {k c n : Nat} (μ : pm_Mm) (hn : n = 290 + 11 * k + c) : pm_CT mi_X10_at [.int (nI k), .int (nI c)] μ (fun v μ2 => v = some (.int (nI n)) ∧ μ2 = μ) pm_NX := by
  refine pm_CT_of (lo := [some (.int (nI k)), some (.int (nI c))]) (by decide +kernel) rfl rfl (by intro v hv; simp at hv; rcases hv with rfl | rfl <;> rfl) (Nat.le_of_ble_eq_true rfl) rfl ?_
  refine pm_bl [(.sipush 290, 3, 0, 0, 290), (.bipush 11, 2, 0, 0, 11), (.iload_n 0, 1, 0, 0, 0), (.imul, 1, 0, 0, 0), (.iadd, 1, 0, 0, 0), (.iload_n 1, 1, 1, 0, 0), (.iadd, 1, 0, 0, 0)] (pc1 := 10) (lo1 := [some (.int (nI k)), some (.int (nI c))]) (st1 := [.int ((290 + (11 * (nI k))) + (nI c))]) (μ1 := μ) (vc := True) rfl (by decide +kernel) rfl trivial ?_
  exact pm_iret (ty := .int) rfl rfl (by decide) (by decide) (by decide +kernel) (⟨by rw [hn, show ((290 + (11 * (nI k))) + (nI c) : Int32) = nI (290 + 11 * k + c) from by simp only [nI, Int32.ofNat_add, Int32.ofNat_mul]; rfl], rfl⟩)
/-- cells but the row g stay -/
def lr_fm (μ μ2 : pm_Mm) : Prop := (∀ i, i ≠ 48 → μ2.1 i = μ.1 i) ∧ μ2.2 = μ.2
theorem lr_fm.rf {μ : pm_Mm} : lr_fm μ μ := ⟨fun _ _ => rfl, rfl⟩
theorem lr_fm.tr {μ a b : pm_Mm} (h1 : lr_fm μ a) (h2 : lr_fm a b) : lr_fm μ b := ⟨fun i hi => (h2.1 i hi).trans (h1.1 i hi), h2.2.trans h1.2⟩
theorem lr_fm.set {μ a : pm_Mm} {k : Nat} {v : Int32} (h : lr_fm μ a) : lr_fm μ (pm_set a 48 k v) := ⟨fun i hi => by rw [pm_set_off hi]; exact h.1 i hi, h.2⟩
set_option maxHeartbeats 4000000 in
set_option maxRecDepth 100000 in
theorem c_X10_returns {g : Nat → Int32} {j : Nat} (wy : Int32) (μ : pm_Mm) (hM : μ.1 48 = g) (hG : lr_G g) (hj : j < lr_n g 289) : pm_CT mi_X10_returns [.ref 47, .int (nI j), .int wy] μ (fun v μ2 => v = none ∧ lr_fm μ μ2 ∧ μ2.1 48 = lr_gret g j (nI (lr_n g 0)) wy) pm_NX := by
  refine pm_CT_of (lo := [some (.ref 47), some (.int (nI j)), some (.int wy)]) (by decide +kernel) rfl rfl (by intro v hv; simp at hv; rcases hv with rfl | rfl | rfl <;> rfl) (Nat.le_of_ble_eq_true rfl) rfl ?_
  have hm1 := lr_mh hG; have hm2 := lr_mw hG; have hm3 := lr_mp hG; have hm4 := lr_mr hG; have hm5 := lr_ma hG; have hm6 := lr_ml hG
  refine pm_bl [(.aload_n 0, 1, 0, 0, 0), (.getfield 7, 3, 10, 0, 0), (.iload_n 1, 1, 1, 0, 0), (.iconst 4, 1, 0, 0, 4)] (pc1 := 6) (lo1 := [some (.ref 47), some (.int (nI j)), some (.int wy)]) (st1 := [.int 4, .int (nI j), .ref 48]) (μ1 := μ) (vc := True) rfl (by decide +kernel) rfl trivial ?_
  refine pm_callS2 mi_X10_at (ix := 127) (kc2 := 0) (ks2 := 0) (As := [.int (nI j), .int 4]) (rest := [.ref 48]) (c_X10_at (k := j) (c := 4) (n := 294 + 11 * j) μ (by omega)) cal_X10_at lk10_127 (by decide +kernel) rfl (by decide +kernel) rfl rfl (Nat.le_of_ble_eq_true rfl) (by decide) (by decide) (fun _ _ h9 => h9.elim) ?_
  rintro _ _ ⟨rfl, h9⟩; rw [h9]; clear h9
  show pm_V _ _ _ _ 9 _ [.int (nI (294 + 11 * j)), .ref 48] _
  refine pm_bl [(.iconst 2, 1, 0, 0, 2), (.iastore, 1, 0, 0, 0), (.aload_n 0, 1, 0, 0, 0), (.getfield 7, 3, 10, 0, 0), (.iload_n 1, 1, 1, 0, 0), (.iconst 5, 1, 0, 0, 5)] (pc1 := 17) (lo1 := [some (.ref 47), some (.int (nI j)), some (.int wy)]) (st1 := [.int 5, .int (nI j), .ref 48]) (μ1 := pm_set μ 48 ((nI (294 + 11 * j)).toNatClampNeg) 2) (vc := vp_in (nI (294 + 11 * j)) 620 ∧ True) rfl (by decide +kernel) rfl ⟨(vp_in_nI (by omega) (by omega)), trivial⟩ ?_
  try rw [nI_clamp (n := (294 + 11 * j)) (by omega)]
  refine pm_callS2 mi_X10_at (ix := 127) (kc2 := 0) (ks2 := 0) (As := [.int (nI j), .int 5]) (rest := [.ref 48]) (c_X10_at (k := j) (c := 5) (n := 295 + 11 * j) (pm_set μ 48 (294 + 11 * j) 2) (by omega)) cal_X10_at lk10_127 (by decide +kernel) rfl (by decide +kernel) rfl rfl (Nat.le_of_ble_eq_true rfl) (by decide) (by decide) (fun _ _ h9 => h9.elim) ?_
  rintro _ _ ⟨rfl, h9⟩; rw [h9]; clear h9
  show pm_V _ _ _ _ 20 _ [.int (nI (295 + 11 * j)), .ref 48] _
  refine pm_bl [(.aload_n 0, 1, 0, 0, 0), (.getfield 7, 3, 10, 0, 0), (.iconst 0, 1, 0, 0, 0), (.iaload, 1, 0, 0, 0)] (pc1 := 26) (lo1 := [some (.ref 47), some (.int (nI j)), some (.int wy)]) (st1 := [.int ((pm_set μ 48 (294 + 11 * j) 2).1 48 (0 : Int32).toNatClampNeg), .int (nI (295 + 11 * j)), .ref 48]) (μ1 := pm_set μ 48 (294 + 11 * j) 2) (vc := vp_in 0 620 ∧ True) rfl (by decide +kernel) rfl ⟨(by unfold vp_in; decide), trivial⟩ ?_
  try rw [show (0 : Int32).toNatClampNeg = 0 from by decide]
  rw [show (pm_set μ 48 (294 + 11 * j) 2).1 48 0 = μ.1 48 0 from by rw [pm_set_miss] <;> omega]
  rw [hM, lr_gT hG]
  refine pm_bl [(.iastore, 1, 0, 0, 0), (.aload_n 0, 1, 0, 0, 0), (.getfield 7, 3, 10, 0, 0), (.iload_n 1, 1, 1, 0, 0), (.bipush 6, 2, 0, 0, 6)] (pc1 := 34) (lo1 := [some (.ref 47), some (.int (nI j)), some (.int wy)]) (st1 := [.int 6, .int (nI j), .ref 48]) (μ1 := pm_set (pm_set μ 48 (294 + 11 * j) 2) 48 ((nI (295 + 11 * j)).toNatClampNeg) (nI (lr_n g 0))) (vc := vp_in (nI (295 + 11 * j)) 620 ∧ True) rfl (by decide +kernel) rfl ⟨(vp_in_nI (by omega) (by omega)), trivial⟩ ?_
  try rw [nI_clamp (n := (295 + 11 * j)) (by omega)]
  refine pm_callS2 mi_X10_at (ix := 127) (kc2 := 0) (ks2 := 0) (As := [.int (nI j), .int 6]) (rest := [.ref 48]) (c_X10_at (k := j) (c := 6) (n := 296 + 11 * j) (pm_set (pm_set μ 48 (294 + 11 * j) 2) 48 (295 + 11 * j) (nI (lr_n g 0))) (by omega)) cal_X10_at lk10_127 (by decide +kernel) rfl (by decide +kernel) rfl rfl (Nat.le_of_ble_eq_true rfl) (by decide) (by decide) (fun _ _ h9 => h9.elim) ?_
  rintro _ _ ⟨rfl, h9⟩; rw [h9]; clear h9
  show pm_V _ _ _ _ 37 _ [.int (nI (296 + 11 * j)), .ref 48] _
  refine pm_bl [(.iload_n 2, 1, 2, 0, 0), (.iastore, 1, 0, 0, 0)] (pc1 := 39) (lo1 := [some (.ref 47), some (.int (nI j)), some (.int wy)]) (st1 := []) (μ1 := pm_set (pm_set (pm_set μ 48 (294 + 11 * j) 2) 48 (295 + 11 * j) (nI (lr_n g 0))) 48 ((nI (296 + 11 * j)).toNatClampNeg) wy) (vc := vp_in (nI (296 + 11 * j)) 620 ∧ True) rfl (by decide +kernel) rfl ⟨(vp_in_nI (by omega) (by omega)), trivial⟩ ?_
  try rw [nI_clamp (n := (296 + 11 * j)) (by omega)]
  exact pm_vret rfl (by decide) (by decide) (by decide +kernel) (⟨rfl, lr_fm.set (lr_fm.set (lr_fm.set lr_fm.rf)), by rw [pm_set_at, pm_set_at, pm_set_at, hM]; rfl⟩)
def lr_gdl0 (g : Nat → Int32) (j : Nat) (dy ho si : Int32) : Nat → Int32 := upd (upd (upd (upd g (294 + 11 * j) 1) (295 + 11 * j) dy) (298 + 11 * j) ho) (299 + 11 * j) si
set_option maxHeartbeats 4000000 in
set_option maxRecDepth 100000 in
theorem c_X10_delivers {g : Nat → Int32} {j : Nat} (ho si : Int32) (μ : pm_Mm) (hM : μ.1 48 = g) (hG : lr_G g) (hj : j < lr_n g 289) : pm_CT mi_X10_delivers [.ref 47, .int (nI j), .int ho, .int si] μ (fun v μ2 => v = none ∧ lr_fm μ μ2 ∧ μ2.1 48 = lr_gdl0 g j (nI (lr_n g 0)) ho si) pm_NX := by
  refine pm_CT_of (lo := [some (.ref 47), some (.int (nI j)), some (.int ho), some (.int si)]) (by decide +kernel) rfl rfl (by intro v hv; simp at hv; rcases hv with rfl | rfl | rfl | rfl <;> rfl) (Nat.le_of_ble_eq_true rfl) rfl ?_
  have hm1 := lr_mh hG; have hm2 := lr_mw hG; have hm3 := lr_mp hG; have hm4 := lr_mr hG; have hm5 := lr_ma hG; have hm6 := lr_ml hG
  refine pm_bl [(.aload_n 0, 1, 0, 0, 0), (.getfield 7, 3, 10, 0, 0), (.iload_n 1, 1, 1, 0, 0), (.iconst 4, 1, 0, 0, 4)] (pc1 := 6) (lo1 := [some (.ref 47), some (.int (nI j)), some (.int ho), some (.int si)]) (st1 := [.int 4, .int (nI j), .ref 48]) (μ1 := μ) (vc := True) rfl (by decide +kernel) rfl trivial ?_
  refine pm_callS2 mi_X10_at (ix := 127) (kc2 := 0) (ks2 := 0) (As := [.int (nI j), .int 4]) (rest := [.ref 48]) (c_X10_at (k := j) (c := 4) (n := 294 + 11 * j) μ (by omega)) cal_X10_at lk10_127 (by decide +kernel) rfl (by decide +kernel) rfl rfl (Nat.le_of_ble_eq_true rfl) (by decide) (by decide) (fun _ _ h9 => h9.elim) ?_
  rintro _ _ ⟨rfl, h9⟩; rw [h9]; clear h9
  show pm_V _ _ _ _ 9 _ [.int (nI (294 + 11 * j)), .ref 48] _
  refine pm_bl [(.iconst 1, 1, 0, 0, 1), (.iastore, 1, 0, 0, 0), (.aload_n 0, 1, 0, 0, 0), (.getfield 7, 3, 10, 0, 0), (.iload_n 1, 1, 1, 0, 0), (.iconst 5, 1, 0, 0, 5)] (pc1 := 17) (lo1 := [some (.ref 47), some (.int (nI j)), some (.int ho), some (.int si)]) (st1 := [.int 5, .int (nI j), .ref 48]) (μ1 := pm_set μ 48 ((nI (294 + 11 * j)).toNatClampNeg) 1) (vc := vp_in (nI (294 + 11 * j)) 620 ∧ True) rfl (by decide +kernel) rfl ⟨(vp_in_nI (by omega) (by omega)), trivial⟩ ?_
  try rw [nI_clamp (n := (294 + 11 * j)) (by omega)]
  refine pm_callS2 mi_X10_at (ix := 127) (kc2 := 0) (ks2 := 0) (As := [.int (nI j), .int 5]) (rest := [.ref 48]) (c_X10_at (k := j) (c := 5) (n := 295 + 11 * j) (pm_set μ 48 (294 + 11 * j) 1) (by omega)) cal_X10_at lk10_127 (by decide +kernel) rfl (by decide +kernel) rfl rfl (Nat.le_of_ble_eq_true rfl) (by decide) (by decide) (fun _ _ h9 => h9.elim) ?_
  rintro _ _ ⟨rfl, h9⟩; rw [h9]; clear h9
  show pm_V _ _ _ _ 20 _ [.int (nI (295 + 11 * j)), .ref 48] _
  refine pm_bl [(.aload_n 0, 1, 0, 0, 0), (.getfield 7, 3, 10, 0, 0), (.iconst 0, 1, 0, 0, 0), (.iaload, 1, 0, 0, 0)] (pc1 := 26) (lo1 := [some (.ref 47), some (.int (nI j)), some (.int ho), some (.int si)]) (st1 := [.int ((pm_set μ 48 (294 + 11 * j) 1).1 48 (0 : Int32).toNatClampNeg), .int (nI (295 + 11 * j)), .ref 48]) (μ1 := pm_set μ 48 (294 + 11 * j) 1) (vc := vp_in 0 620 ∧ True) rfl (by decide +kernel) rfl ⟨(by unfold vp_in; decide), trivial⟩ ?_
  try rw [show (0 : Int32).toNatClampNeg = 0 from by decide]
  rw [show (pm_set μ 48 (294 + 11 * j) 1).1 48 0 = μ.1 48 0 from by rw [pm_set_miss] <;> omega]
  rw [hM, lr_gT hG]
  refine pm_bl [(.iastore, 1, 0, 0, 0), (.aload_n 0, 1, 0, 0, 0), (.getfield 7, 3, 10, 0, 0), (.iload_n 1, 1, 1, 0, 0), (.bipush 8, 2, 0, 0, 8)] (pc1 := 34) (lo1 := [some (.ref 47), some (.int (nI j)), some (.int ho), some (.int si)]) (st1 := [.int 8, .int (nI j), .ref 48]) (μ1 := pm_set (pm_set μ 48 (294 + 11 * j) 1) 48 ((nI (295 + 11 * j)).toNatClampNeg) (nI (lr_n g 0))) (vc := vp_in (nI (295 + 11 * j)) 620 ∧ True) rfl (by decide +kernel) rfl ⟨(vp_in_nI (by omega) (by omega)), trivial⟩ ?_
  try rw [nI_clamp (n := (295 + 11 * j)) (by omega)]
  refine pm_callS2 mi_X10_at (ix := 127) (kc2 := 0) (ks2 := 0) (As := [.int (nI j), .int 8]) (rest := [.ref 48]) (c_X10_at (k := j) (c := 8) (n := 298 + 11 * j) (pm_set (pm_set μ 48 (294 + 11 * j) 1) 48 (295 + 11 * j) (nI (lr_n g 0))) (by omega)) cal_X10_at lk10_127 (by decide +kernel) rfl (by decide +kernel) rfl rfl (Nat.le_of_ble_eq_true rfl) (by decide) (by decide) (fun _ _ h9 => h9.elim) ?_
  rintro _ _ ⟨rfl, h9⟩; rw [h9]; clear h9
  show pm_V _ _ _ _ 37 _ [.int (nI (298 + 11 * j)), .ref 48] _
  refine pm_bl [(.iload_n 2, 1, 2, 0, 0), (.iastore, 1, 0, 0, 0), (.aload_n 0, 1, 0, 0, 0), (.getfield 7, 3, 10, 0, 0), (.iload_n 1, 1, 1, 0, 0), (.bipush 9, 2, 0, 0, 9)] (pc1 := 46) (lo1 := [some (.ref 47), some (.int (nI j)), some (.int ho), some (.int si)]) (st1 := [.int 9, .int (nI j), .ref 48]) (μ1 := pm_set (pm_set (pm_set μ 48 (294 + 11 * j) 1) 48 (295 + 11 * j) (nI (lr_n g 0))) 48 ((nI (298 + 11 * j)).toNatClampNeg) ho) (vc := vp_in (nI (298 + 11 * j)) 620 ∧ True) rfl (by decide +kernel) rfl ⟨(vp_in_nI (by omega) (by omega)), trivial⟩ ?_
  try rw [nI_clamp (n := (298 + 11 * j)) (by omega)]
  refine pm_callS2 mi_X10_at (ix := 127) (kc2 := 0) (ks2 := 0) (As := [.int (nI j), .int 9]) (rest := [.ref 48]) (c_X10_at (k := j) (c := 9) (n := 299 + 11 * j) (pm_set (pm_set (pm_set μ 48 (294 + 11 * j) 1) 48 (295 + 11 * j) (nI (lr_n g 0))) 48 (298 + 11 * j) ho) (by omega)) cal_X10_at lk10_127 (by decide +kernel) rfl (by decide +kernel) rfl rfl (Nat.le_of_ble_eq_true rfl) (by decide) (by decide) (fun _ _ h9 => h9.elim) ?_
  rintro _ _ ⟨rfl, h9⟩; rw [h9]; clear h9
  show pm_V _ _ _ _ 49 _ [.int (nI (299 + 11 * j)), .ref 48] _
  refine pm_bl [(.iload_n 3, 1, 3, 0, 0), (.iastore, 1, 0, 0, 0)] (pc1 := 51) (lo1 := [some (.ref 47), some (.int (nI j)), some (.int ho), some (.int si)]) (st1 := []) (μ1 := pm_set (pm_set (pm_set (pm_set μ 48 (294 + 11 * j) 1) 48 (295 + 11 * j) (nI (lr_n g 0))) 48 (298 + 11 * j) ho) 48 ((nI (299 + 11 * j)).toNatClampNeg) si) (vc := vp_in (nI (299 + 11 * j)) 620 ∧ True) rfl (by decide +kernel) rfl ⟨(vp_in_nI (by omega) (by omega)), trivial⟩ ?_
  try rw [nI_clamp (n := (299 + 11 * j)) (by omega)]
  exact pm_vret rfl (by decide) (by decide) (by decide +kernel) (⟨rfl, lr_fm.set (lr_fm.set (lr_fm.set (lr_fm.set lr_fm.rf))), by rw [pm_set_at, pm_set_at, pm_set_at, pm_set_at, hM]; rfl⟩)
/-- the model's sum over letters -/
def lr_smt (g : Nat → Int32) (wh : Nat) (s : Int32) (l : Nat) : Int32 := if s < 0 ∨ g (294 + 11 * l) = s then g (290 + wh + 11 * l) else 0
def lr_smn (g : Nat → Int32) (s : Int32) (l : Nat) : Int32 := if s < 0 ∨ g (294 + 11 * l) = s then 1 else 0
set_option maxHeartbeats 4000000 in
set_option maxRecDepth 100000 in
theorem l_X10_sumOf_n {g : Nat → Int32} (s : Int32) (μ : pm_Mm) (hM : μ.1 48 = g) (hG : lr_G g) : ∀ n k : Nat, ∀ x : Int32, k + n = lr_n g 289 → x = lr_sum (lr_smn g s) k → pm_V mi_X10_sumOf ((fun v μ2 => v = some (.int (lr_sum (lr_smn g s) (lr_n g 289))) ∧ μ2 = μ), pm_NX, fun _ _ _ => True) 0 0 5 [some (.ref 47), some (.int (-1)), some (.int s), some (.int x), some (.int (nI k))] [] μ := by
  have hm1 := lr_mh hG; have hm2 := lr_mw hG; have hm3 := lr_mp hG; have hm4 := lr_mr hG; have hm5 := lr_ma hG; have hm6 := lr_ml hG
  intro n
  induction n with
  | zero =>
    intro k x hk he
    refine pm_bl [(.iload 4, 2, 4, 0, 0), (.aload_n 0, 1, 0, 0, 0), (.getfield 7, 3, 10, 0, 0), (.sipush 289, 3, 0, 0, 289), (.iaload, 1, 0, 0, 0)] (pc1 := 15) (lo1 := [some (.ref 47), some (.int (-1)), some (.int s), some (.int x), some (.int (nI k))]) (st1 := [.int (μ.1 48 (289 : Int32).toNatClampNeg), .int (nI k)]) (μ1 := μ) (vc := vp_in 289 620 ∧ True) rfl (by decide +kernel) rfl ⟨(by unfold vp_in; decide), trivial⟩ ?_
    rw [show (289 : Int32).toNatClampNeg = 289 from by decide, hM, lr_gl hG]
    refine pm_icmp_ge (off := 54) 69 (by decide +kernel) (by decide) (fun (h15 : (nI (lr_n g 289)) ≤ (nI k)) => ?_) (fun (h9 : ¬ ((nI (lr_n g 289)) ≤ (nI k))) => absurd (nI_le (by omega) (by omega)) h9)
    refine pm_bl [(.iload_n 3, 1, 3, 0, 0)] (pc1 := 70) (lo1 := [some (.ref 47), some (.int (-1)), some (.int s), some (.int x), some (.int (nI k))]) (st1 := [.int x]) (μ1 := μ) (vc := True) rfl (by decide +kernel) rfl trivial ?_
    exact pm_iret (ty := .int) rfl rfl (by decide) (by decide) (by decide +kernel) (⟨by rw [he, ← hk]; rfl, rfl⟩)
  | succ n ih =>
    intro k x hk he
    refine pm_bl [(.iload 4, 2, 4, 0, 0), (.aload_n 0, 1, 0, 0, 0), (.getfield 7, 3, 10, 0, 0), (.sipush 289, 3, 0, 0, 289), (.iaload, 1, 0, 0, 0)] (pc1 := 15) (lo1 := [some (.ref 47), some (.int (-1)), some (.int s), some (.int x), some (.int (nI k))]) (st1 := [.int (μ.1 48 (289 : Int32).toNatClampNeg), .int (nI k)]) (μ1 := μ) (vc := vp_in 289 620 ∧ True) rfl (by decide +kernel) rfl ⟨(by unfold vp_in; decide), trivial⟩ ?_
    rw [show (289 : Int32).toNatClampNeg = 289 from by decide, hM, lr_gl hG]
    refine pm_icmp_ge (off := 54) 69 (by decide +kernel) (by decide) (fun (h9 : (nI (lr_n g 289)) ≤ (nI k)) => absurd h9 (nI_ge (by omega) (by omega))) (fun (h15 : ¬ ((nI (lr_n g 289)) ≤ (nI k))) => ?_)
    refine pm_bl [(.iload_n 3, 1, 3, 0, 0), (.iload_n 2, 1, 2, 0, 0)] (pc1 := 20) (lo1 := [some (.ref 47), some (.int (-1)), some (.int s), some (.int x), some (.int (nI k))]) (st1 := [.int s, .int x]) (μ1 := μ) (vc := True) rfl (by decide +kernel) rfl trivial ?_
    refine pm_if_lt (off := 18) 38 (by decide +kernel) (by decide) (fun (h20 : s < 0) => ?_) (fun (h20 : ¬ (s < 0)) => ?_)
    · refine pm_bl [(.iload_n 1, 1, 1, 0, 0)] (pc1 := 39) (lo1 := [some (.ref 47), some (.int (-1)), some (.int s), some (.int x), some (.int (nI k))]) (st1 := [.int (-1), .int x]) (μ1 := μ) (vc := True) rfl (by decide +kernel) rfl trivial ?_
      refine pm_if_ge (off := 7) 46 (by decide +kernel) (by decide) (fun h9 => absurd h9 (by decide)) (fun _ => ?_)
      refine pm_bl [(.iconst 1, 1, 0, 0, 1), (.goto 18, 3, 61, 0, 0), (.iadd, 1, 0, 0, 0), (.istore_n 3, 1, 3, 0, 0), (.iinc 4 1, 3, 4, 0, 1), (.goto (-61), 3, 5, 0, 0)] (pc1 := 5) (lo1 := [some (.ref 47), some (.int (-1)), some (.int s), some (.int (x + 1)), some (.int ((nI k) + 1))]) (st1 := []) (μ1 := μ) (vc := True) rfl (by decide +kernel) rfl trivial ?_
      rw [nI_1]; exact ih (k + 1) _ (by omega) (by rw [he, lr_sum, lr_smn]; first | (rw [if_pos (Or.inl (by assumption))]; done) | (rw [if_pos (Or.inr (by assumption))]; done) | (rw [if_neg (by intro h; rcases h with h | h <;> contradiction)]))
    · refine pm_bl [(.aload_n 0, 1, 0, 0, 0), (.getfield 7, 3, 10, 0, 0), (.iload 4, 2, 4, 0, 0), (.iconst 4, 1, 0, 0, 4)] (pc1 := 30) (lo1 := [some (.ref 47), some (.int (-1)), some (.int s), some (.int x), some (.int (nI k))]) (st1 := [.int 4, .int (nI k), .ref 48, .int x]) (μ1 := μ) (vc := True) rfl (by decide +kernel) rfl trivial ?_
      refine pm_callS2 mi_X10_at (ix := 127) (kc2 := 0) (ks2 := 0) (As := [.int (nI k), .int 4]) (rest := [.ref 48, .int x]) (c_X10_at (k := k) (c := 4) (n := 294 + 11 * k) μ (by omega)) cal_X10_at lk10_127 (by decide +kernel) rfl (by decide +kernel) rfl rfl (Nat.le_of_ble_eq_true rfl) (by decide) (by decide) (fun _ _ h9 => h9.elim) ?_
      rintro _ _ ⟨rfl, h9⟩; rw [h9]; clear h9
      show pm_V _ _ _ _ 33 _ [.int (nI (294 + 11 * k)), .ref 48, .int x] _
      refine pm_bl [(.iaload, 1, 0, 0, 0)] (pc1 := 34) (lo1 := [some (.ref 47), some (.int (-1)), some (.int s), some (.int x), some (.int (nI k))]) (st1 := [.int (μ.1 48 (nI (294 + 11 * k)).toNatClampNeg), .int x]) (μ1 := μ) (vc := vp_in (nI (294 + 11 * k)) 620 ∧ True) rfl (by decide +kernel) rfl ⟨(vp_in_nI (by omega) (by omega)), trivial⟩ ?_
      first | rw [nI_clamp (n := 294 + 11 * k) (by omega), hM] | rw [hM]
      refine pm_bl [(.iload_n 2, 1, 2, 0, 0)] (pc1 := 35) (lo1 := [some (.ref 47), some (.int (-1)), some (.int s), some (.int x), some (.int (nI k))]) (st1 := [.int s, .int (g (294 + 11 * k)), .int x]) (μ1 := μ) (vc := True) rfl (by decide +kernel) rfl trivial ?_
      refine pm_icmp_ne (off := 25) 60 (by decide +kernel) (by decide) (fun (h35 : ¬ (g (294 + 11 * k)) = s) => ?_) (fun (h35 : (g (294 + 11 * k)) = s) => ?_)
      · refine pm_bl [(.iconst 0, 1, 0, 0, 0), (.iadd, 1, 0, 0, 0), (.istore_n 3, 1, 3, 0, 0), (.iinc 4 1, 3, 4, 0, 1), (.goto (-61), 3, 5, 0, 0)] (pc1 := 5) (lo1 := [some (.ref 47), some (.int (-1)), some (.int s), some (.int (x + 0)), some (.int ((nI k) + 1))]) (st1 := []) (μ1 := μ) (vc := True) rfl (by decide +kernel) rfl trivial ?_
        rw [nI_1]; exact ih (k + 1) _ (by omega) (by rw [he, lr_sum, lr_smn]; first | (rw [if_pos (Or.inl (by assumption))]; done) | (rw [if_pos (Or.inr (by assumption))]; done) | (rw [if_neg (by intro h; rcases h with h | h <;> contradiction)]))
      · refine pm_bl [(.iload_n 1, 1, 1, 0, 0)] (pc1 := 39) (lo1 := [some (.ref 47), some (.int (-1)), some (.int s), some (.int x), some (.int (nI k))]) (st1 := [.int (-1), .int x]) (μ1 := μ) (vc := True) rfl (by decide +kernel) rfl trivial ?_
        refine pm_if_ge (off := 7) 46 (by decide +kernel) (by decide) (fun h9 => absurd h9 (by decide)) (fun _ => ?_)
        refine pm_bl [(.iconst 1, 1, 0, 0, 1), (.goto 18, 3, 61, 0, 0), (.iadd, 1, 0, 0, 0), (.istore_n 3, 1, 3, 0, 0), (.iinc 4 1, 3, 4, 0, 1), (.goto (-61), 3, 5, 0, 0)] (pc1 := 5) (lo1 := [some (.ref 47), some (.int (-1)), some (.int s), some (.int (x + 1)), some (.int ((nI k) + 1))]) (st1 := []) (μ1 := μ) (vc := True) rfl (by decide +kernel) rfl trivial ?_
        rw [nI_1]; exact ih (k + 1) _ (by omega) (by rw [he, lr_sum, lr_smn]; first | (rw [if_pos (Or.inl (by assumption))]; done) | (rw [if_pos (Or.inr (by assumption))]; done) | (rw [if_neg (by intro h; rcases h with h | h <;> contradiction)]))
set_option maxHeartbeats 4000000 in
set_option maxRecDepth 100000 in
theorem c_X10_sumOf_n {g : Nat → Int32} (s : Int32) (μ : pm_Mm) (hM : μ.1 48 = g) (hG : lr_G g) : pm_CT mi_X10_sumOf [.ref 47, .int (-1), .int s] μ (fun v μ2 => v = some (.int (lr_sum (lr_smn g s) (lr_n g 289))) ∧ μ2 = μ) pm_NX := by
  refine pm_CT_of (lo := [some (.ref 47), some (.int (-1)), some (.int s), none, none]) (by decide +kernel) rfl rfl (by intro v hv; simp at hv; rcases hv with rfl | rfl | rfl <;> rfl) (Nat.le_of_ble_eq_true rfl) rfl ?_
  refine pm_bl [(.iconst 0, 1, 0, 0, 0), (.istore_n 3, 1, 3, 0, 0), (.iconst 0, 1, 0, 0, 0), (.istore 4, 2, 4, 0, 0)] (pc1 := 5) (lo1 := [some (.ref 47), some (.int (-1)), some (.int s), some (.int 0), some (.int 0)]) (st1 := []) (μ1 := μ) (vc := True) rfl (by decide +kernel) rfl trivial ?_
  exact l_X10_sumOf_n s μ hM hG (lr_n g 289) 0 0 (Nat.zero_add _) rfl
set_option maxHeartbeats 4000000 in
set_option maxRecDepth 100000 in
theorem l_X10_sumOf_t {g : Nat → Int32} (c : Nat) (hc : c ≤ 10) (s : Int32) (μ : pm_Mm) (hM : μ.1 48 = g) (hG : lr_G g) : ∀ n k : Nat, ∀ x : Int32, k + n = lr_n g 289 → x = lr_sum (lr_smt g c s) k → pm_V mi_X10_sumOf ((fun v μ2 => v = some (.int (lr_sum (lr_smt g c s) (lr_n g 289))) ∧ μ2 = μ), pm_NX, fun _ _ _ => True) 0 0 5 [some (.ref 47), some (.int (nI c)), some (.int s), some (.int x), some (.int (nI k))] [] μ := by
  have hm1 := lr_mh hG; have hm2 := lr_mw hG; have hm3 := lr_mp hG; have hm4 := lr_mr hG; have hm5 := lr_ma hG; have hm6 := lr_ml hG
  intro n
  induction n with
  | zero =>
    intro k x hk he
    refine pm_bl [(.iload 4, 2, 4, 0, 0), (.aload_n 0, 1, 0, 0, 0), (.getfield 7, 3, 10, 0, 0), (.sipush 289, 3, 0, 0, 289), (.iaload, 1, 0, 0, 0)] (pc1 := 15) (lo1 := [some (.ref 47), some (.int (nI c)), some (.int s), some (.int x), some (.int (nI k))]) (st1 := [.int (μ.1 48 (289 : Int32).toNatClampNeg), .int (nI k)]) (μ1 := μ) (vc := vp_in 289 620 ∧ True) rfl (by decide +kernel) rfl ⟨(by unfold vp_in; decide), trivial⟩ ?_
    rw [show (289 : Int32).toNatClampNeg = 289 from by decide, hM, lr_gl hG]
    refine pm_icmp_ge (off := 54) 69 (by decide +kernel) (by decide) (fun (h15 : (nI (lr_n g 289)) ≤ (nI k)) => ?_) (fun (h9 : ¬ ((nI (lr_n g 289)) ≤ (nI k))) => absurd (nI_le (by omega) (by omega)) h9)
    refine pm_bl [(.iload_n 3, 1, 3, 0, 0)] (pc1 := 70) (lo1 := [some (.ref 47), some (.int (nI c)), some (.int s), some (.int x), some (.int (nI k))]) (st1 := [.int x]) (μ1 := μ) (vc := True) rfl (by decide +kernel) rfl trivial ?_
    exact pm_iret (ty := .int) rfl rfl (by decide) (by decide) (by decide +kernel) (⟨by rw [he, ← hk]; rfl, rfl⟩)
  | succ n ih =>
    intro k x hk he
    refine pm_bl [(.iload 4, 2, 4, 0, 0), (.aload_n 0, 1, 0, 0, 0), (.getfield 7, 3, 10, 0, 0), (.sipush 289, 3, 0, 0, 289), (.iaload, 1, 0, 0, 0)] (pc1 := 15) (lo1 := [some (.ref 47), some (.int (nI c)), some (.int s), some (.int x), some (.int (nI k))]) (st1 := [.int (μ.1 48 (289 : Int32).toNatClampNeg), .int (nI k)]) (μ1 := μ) (vc := vp_in 289 620 ∧ True) rfl (by decide +kernel) rfl ⟨(by unfold vp_in; decide), trivial⟩ ?_
    rw [show (289 : Int32).toNatClampNeg = 289 from by decide, hM, lr_gl hG]
    refine pm_icmp_ge (off := 54) 69 (by decide +kernel) (by decide) (fun (h9 : (nI (lr_n g 289)) ≤ (nI k)) => absurd h9 (nI_ge (by omega) (by omega))) (fun (h15 : ¬ ((nI (lr_n g 289)) ≤ (nI k))) => ?_)
    refine pm_bl [(.iload_n 3, 1, 3, 0, 0), (.iload_n 2, 1, 2, 0, 0)] (pc1 := 20) (lo1 := [some (.ref 47), some (.int (nI c)), some (.int s), some (.int x), some (.int (nI k))]) (st1 := [.int s, .int x]) (μ1 := μ) (vc := True) rfl (by decide +kernel) rfl trivial ?_
    refine pm_if_lt (off := 18) 38 (by decide +kernel) (by decide) (fun (h20 : s < 0) => ?_) (fun (h20 : ¬ (s < 0)) => ?_)
    · refine pm_bl [(.iload_n 1, 1, 1, 0, 0)] (pc1 := 39) (lo1 := [some (.ref 47), some (.int (nI c)), some (.int s), some (.int x), some (.int (nI k))]) (st1 := [.int (nI c), .int x]) (μ1 := μ) (vc := True) rfl (by decide +kernel) rfl trivial ?_
      refine pm_if_ge (off := 7) 46 (by decide +kernel) (by decide) (fun (h39 : 0 ≤ (nI c)) => ?_) (fun (h39 : ¬ (0 ≤ (nI c))) => ?_)
      · refine pm_bl [(.aload_n 0, 1, 0, 0, 0), (.getfield 7, 3, 10, 0, 0), (.iload 4, 2, 4, 0, 0), (.iload_n 1, 1, 1, 0, 0)] (pc1 := 53) (lo1 := [some (.ref 47), some (.int (nI c)), some (.int s), some (.int x), some (.int (nI k))]) (st1 := [.int (nI c), .int (nI k), .ref 48, .int x]) (μ1 := μ) (vc := True) rfl (by decide +kernel) rfl trivial ?_
        refine pm_callS2 mi_X10_at (ix := 127) (kc2 := 0) (ks2 := 0) (As := [.int (nI k), .int (nI c)]) (rest := [.ref 48, .int x]) (c_X10_at (k := k) (c := c) (n := 290 + 11 * k + c) μ rfl) cal_X10_at lk10_127 (by decide +kernel) rfl (by decide +kernel) rfl rfl (Nat.le_of_ble_eq_true rfl) (by decide) (by decide) (fun _ _ h9 => h9.elim) ?_
        rintro _ _ ⟨rfl, h9⟩; rw [h9]; clear h9
        show pm_V _ _ _ _ 56 _ [.int (nI (290 + 11 * k + c)), .ref 48, .int x] _
        refine pm_bl [(.iaload, 1, 0, 0, 0)] (pc1 := 57) (lo1 := [some (.ref 47), some (.int (nI c)), some (.int s), some (.int x), some (.int (nI k))]) (st1 := [.int (μ.1 48 (nI (290 + 11 * k + c)).toNatClampNeg), .int x]) (μ1 := μ) (vc := vp_in (nI (290 + 11 * k + c)) 620 ∧ True) rfl (by decide +kernel) rfl ⟨(vp_in_nI (by omega) (by omega)), trivial⟩ ?_
        first | rw [nI_clamp (n := 290 + 11 * k + c) (by omega), hM] | rw [hM]
        refine pm_bl [(.goto 4, 3, 61, 0, 0), (.iadd, 1, 0, 0, 0), (.istore_n 3, 1, 3, 0, 0), (.iinc 4 1, 3, 4, 0, 1), (.goto (-61), 3, 5, 0, 0)] (pc1 := 5) (lo1 := [some (.ref 47), some (.int (nI c)), some (.int s), some (.int (x + (g (290 + 11 * k + c)))), some (.int ((nI k) + 1))]) (st1 := []) (μ1 := μ) (vc := True) rfl (by decide +kernel) rfl trivial ?_
        rw [nI_1]; exact ih (k + 1) _ (by omega) (by rw [he, lr_sum, lr_smt, show 290 + c + 11 * k = 290 + 11 * k + c from by omega]; first | (exact absurd (nI_pos' (by omega)) h39) | (rw [if_pos (Or.inl (by assumption))]; done) | (rw [if_pos (Or.inr (by assumption))]; done) | (rw [if_neg (by intro h; rcases h with h | h <;> contradiction)]))
      · refine pm_bl [(.iconst 1, 1, 0, 0, 1), (.goto 18, 3, 61, 0, 0), (.iadd, 1, 0, 0, 0), (.istore_n 3, 1, 3, 0, 0), (.iinc 4 1, 3, 4, 0, 1), (.goto (-61), 3, 5, 0, 0)] (pc1 := 5) (lo1 := [some (.ref 47), some (.int (nI c)), some (.int s), some (.int (x + 1)), some (.int ((nI k) + 1))]) (st1 := []) (μ1 := μ) (vc := True) rfl (by decide +kernel) rfl trivial ?_
        rw [nI_1]; exact ih (k + 1) _ (by omega) (by rw [he, lr_sum, lr_smt, show 290 + c + 11 * k = 290 + 11 * k + c from by omega]; first | (exact absurd (nI_pos' (by omega)) h39) | (rw [if_pos (Or.inl (by assumption))]; done) | (rw [if_pos (Or.inr (by assumption))]; done) | (rw [if_neg (by intro h; rcases h with h | h <;> contradiction)]))
    · refine pm_bl [(.aload_n 0, 1, 0, 0, 0), (.getfield 7, 3, 10, 0, 0), (.iload 4, 2, 4, 0, 0), (.iconst 4, 1, 0, 0, 4)] (pc1 := 30) (lo1 := [some (.ref 47), some (.int (nI c)), some (.int s), some (.int x), some (.int (nI k))]) (st1 := [.int 4, .int (nI k), .ref 48, .int x]) (μ1 := μ) (vc := True) rfl (by decide +kernel) rfl trivial ?_
      refine pm_callS2 mi_X10_at (ix := 127) (kc2 := 0) (ks2 := 0) (As := [.int (nI k), .int 4]) (rest := [.ref 48, .int x]) (c_X10_at (k := k) (c := 4) (n := 294 + 11 * k) μ (by omega)) cal_X10_at lk10_127 (by decide +kernel) rfl (by decide +kernel) rfl rfl (Nat.le_of_ble_eq_true rfl) (by decide) (by decide) (fun _ _ h9 => h9.elim) ?_
      rintro _ _ ⟨rfl, h9⟩; rw [h9]; clear h9
      show pm_V _ _ _ _ 33 _ [.int (nI (294 + 11 * k)), .ref 48, .int x] _
      refine pm_bl [(.iaload, 1, 0, 0, 0)] (pc1 := 34) (lo1 := [some (.ref 47), some (.int (nI c)), some (.int s), some (.int x), some (.int (nI k))]) (st1 := [.int (μ.1 48 (nI (294 + 11 * k)).toNatClampNeg), .int x]) (μ1 := μ) (vc := vp_in (nI (294 + 11 * k)) 620 ∧ True) rfl (by decide +kernel) rfl ⟨(vp_in_nI (by omega) (by omega)), trivial⟩ ?_
      first | rw [nI_clamp (n := 294 + 11 * k) (by omega), hM] | rw [hM]
      refine pm_bl [(.iload_n 2, 1, 2, 0, 0)] (pc1 := 35) (lo1 := [some (.ref 47), some (.int (nI c)), some (.int s), some (.int x), some (.int (nI k))]) (st1 := [.int s, .int (g (294 + 11 * k)), .int x]) (μ1 := μ) (vc := True) rfl (by decide +kernel) rfl trivial ?_
      refine pm_icmp_ne (off := 25) 60 (by decide +kernel) (by decide) (fun (h35 : ¬ (g (294 + 11 * k)) = s) => ?_) (fun (h35 : (g (294 + 11 * k)) = s) => ?_)
      · refine pm_bl [(.iconst 0, 1, 0, 0, 0), (.iadd, 1, 0, 0, 0), (.istore_n 3, 1, 3, 0, 0), (.iinc 4 1, 3, 4, 0, 1), (.goto (-61), 3, 5, 0, 0)] (pc1 := 5) (lo1 := [some (.ref 47), some (.int (nI c)), some (.int s), some (.int (x + 0)), some (.int ((nI k) + 1))]) (st1 := []) (μ1 := μ) (vc := True) rfl (by decide +kernel) rfl trivial ?_
        rw [nI_1]; exact ih (k + 1) _ (by omega) (by rw [he, lr_sum, lr_smt, show 290 + c + 11 * k = 290 + 11 * k + c from by omega]; first | (exact absurd (nI_pos' (by omega)) h39) | (rw [if_pos (Or.inl (by assumption))]; done) | (rw [if_pos (Or.inr (by assumption))]; done) | (rw [if_neg (by intro h; rcases h with h | h <;> contradiction)]))
      · refine pm_bl [(.iload_n 1, 1, 1, 0, 0)] (pc1 := 39) (lo1 := [some (.ref 47), some (.int (nI c)), some (.int s), some (.int x), some (.int (nI k))]) (st1 := [.int (nI c), .int x]) (μ1 := μ) (vc := True) rfl (by decide +kernel) rfl trivial ?_
        refine pm_if_ge (off := 7) 46 (by decide +kernel) (by decide) (fun (h39 : 0 ≤ (nI c)) => ?_) (fun (h39 : ¬ (0 ≤ (nI c))) => ?_)
        · refine pm_bl [(.aload_n 0, 1, 0, 0, 0), (.getfield 7, 3, 10, 0, 0), (.iload 4, 2, 4, 0, 0), (.iload_n 1, 1, 1, 0, 0)] (pc1 := 53) (lo1 := [some (.ref 47), some (.int (nI c)), some (.int s), some (.int x), some (.int (nI k))]) (st1 := [.int (nI c), .int (nI k), .ref 48, .int x]) (μ1 := μ) (vc := True) rfl (by decide +kernel) rfl trivial ?_
          refine pm_callS2 mi_X10_at (ix := 127) (kc2 := 0) (ks2 := 0) (As := [.int (nI k), .int (nI c)]) (rest := [.ref 48, .int x]) (c_X10_at (k := k) (c := c) (n := 290 + 11 * k + c) μ rfl) cal_X10_at lk10_127 (by decide +kernel) rfl (by decide +kernel) rfl rfl (Nat.le_of_ble_eq_true rfl) (by decide) (by decide) (fun _ _ h9 => h9.elim) ?_
          rintro _ _ ⟨rfl, h9⟩; rw [h9]; clear h9
          show pm_V _ _ _ _ 56 _ [.int (nI (290 + 11 * k + c)), .ref 48, .int x] _
          refine pm_bl [(.iaload, 1, 0, 0, 0)] (pc1 := 57) (lo1 := [some (.ref 47), some (.int (nI c)), some (.int s), some (.int x), some (.int (nI k))]) (st1 := [.int (μ.1 48 (nI (290 + 11 * k + c)).toNatClampNeg), .int x]) (μ1 := μ) (vc := vp_in (nI (290 + 11 * k + c)) 620 ∧ True) rfl (by decide +kernel) rfl ⟨(vp_in_nI (by omega) (by omega)), trivial⟩ ?_
          first | rw [nI_clamp (n := 290 + 11 * k + c) (by omega), hM] | rw [hM]
          refine pm_bl [(.goto 4, 3, 61, 0, 0), (.iadd, 1, 0, 0, 0), (.istore_n 3, 1, 3, 0, 0), (.iinc 4 1, 3, 4, 0, 1), (.goto (-61), 3, 5, 0, 0)] (pc1 := 5) (lo1 := [some (.ref 47), some (.int (nI c)), some (.int s), some (.int (x + (g (290 + 11 * k + c)))), some (.int ((nI k) + 1))]) (st1 := []) (μ1 := μ) (vc := True) rfl (by decide +kernel) rfl trivial ?_
          rw [nI_1]; exact ih (k + 1) _ (by omega) (by rw [he, lr_sum, lr_smt, show 290 + c + 11 * k = 290 + 11 * k + c from by omega]; first | (exact absurd (nI_pos' (by omega)) h39) | (rw [if_pos (Or.inl (by assumption))]; done) | (rw [if_pos (Or.inr (by assumption))]; done) | (rw [if_neg (by intro h; rcases h with h | h <;> contradiction)]))
        · refine pm_bl [(.iconst 1, 1, 0, 0, 1), (.goto 18, 3, 61, 0, 0), (.iadd, 1, 0, 0, 0), (.istore_n 3, 1, 3, 0, 0), (.iinc 4 1, 3, 4, 0, 1), (.goto (-61), 3, 5, 0, 0)] (pc1 := 5) (lo1 := [some (.ref 47), some (.int (nI c)), some (.int s), some (.int (x + 1)), some (.int ((nI k) + 1))]) (st1 := []) (μ1 := μ) (vc := True) rfl (by decide +kernel) rfl trivial ?_
          rw [nI_1]; exact ih (k + 1) _ (by omega) (by rw [he, lr_sum, lr_smt, show 290 + c + 11 * k = 290 + 11 * k + c from by omega]; first | (exact absurd (nI_pos' (by omega)) h39) | (rw [if_pos (Or.inl (by assumption))]; done) | (rw [if_pos (Or.inr (by assumption))]; done) | (rw [if_neg (by intro h; rcases h with h | h <;> contradiction)]))
set_option maxHeartbeats 4000000 in
set_option maxRecDepth 100000 in
theorem c_X10_sumOf_t {g : Nat → Int32} {c : Nat} (hc : c ≤ 10) (s : Int32) (μ : pm_Mm) (hM : μ.1 48 = g) (hG : lr_G g) : pm_CT mi_X10_sumOf [.ref 47, .int (nI c), .int s] μ (fun v μ2 => v = some (.int (lr_sum (lr_smt g c s) (lr_n g 289))) ∧ μ2 = μ) pm_NX := by
  refine pm_CT_of (lo := [some (.ref 47), some (.int (nI c)), some (.int s), none, none]) (by decide +kernel) rfl rfl (by intro v hv; simp at hv; rcases hv with rfl | rfl | rfl <;> rfl) (Nat.le_of_ble_eq_true rfl) rfl ?_
  refine pm_bl [(.iconst 0, 1, 0, 0, 0), (.istore_n 3, 1, 3, 0, 0), (.iconst 0, 1, 0, 0, 0), (.istore 4, 2, 4, 0, 0)] (pc1 := 5) (lo1 := [some (.ref 47), some (.int (nI c)), some (.int s), some (.int 0), some (.int 0)]) (st1 := []) (μ1 := μ) (vc := True) rfl (by decide +kernel) rfl trivial ?_
  exact l_X10_sumOf_t c hc s μ hM hG (lr_n g 289) 0 0 (Nat.zero_add _) rfl
