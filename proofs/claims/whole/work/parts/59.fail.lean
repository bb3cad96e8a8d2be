/-! the class: what a day does to a letter that is not handed over -/
set_option maxHeartbeats 4000000 in
set_option maxRecDepth 100000 in
theorem c_X4_sendBack9 {g : Nat → Int32} {j : Nat} (dy wy : Int32) (μ : pm_Mm) (hR : lr_Rel μ.1 1 g) (hB : lr_B g) (hj : j < lr_n g 289) : pm_CT mi_X4_sendBack [.ref 26, .int (nI j), .int dy, .int wy] μ (fun v μ2 => μ2.1 39 = μ.1 39 ∧ v = none ∧ lr_fr μ μ2 ∧ lr_Rel μ2.1 1 (lr_gret g j dy wy)) pm_NX := by
  refine pm_CT_of (lo := [some (.ref 26), some (.int (nI j)), some (.int dy), some (.int wy)]) (by decide +kernel) rfl rfl (by intro v hv; simp at hv; rcases hv with rfl | rfl | rfl | rfl <;> rfl) (Nat.le_of_ble_eq_true rfl) rfl ?_
  obtain ⟨hm1, hm3, hm2, hm4, hm5, hm6⟩ := id hB
  refine pm_bl [(.aload_n 0, 1, 0, 0, 0), (.getfield 31, 3, 4, 6, 0), (.iload_n 1, 1, 1, 0, 0), (.iconst 2, 1, 0, 0, 2), (.iastore, 1, 0, 0, 0), (.aload_n 0, 1, 0, 0, 0), (.getfield 34, 3, 4, 7, 0), (.iload_n 1, 1, 1, 0, 0), (.iload_n 2, 1, 2, 0, 0), (.iastore, 1, 0, 0, 0), (.aload_n 0, 1, 0, 0, 0), (.getfield 37, 3, 4, 8, 0), (.iload_n 1, 1, 1, 0, 0), (.iload_n 3, 1, 3, 0, 0), (.iastore, 1, 0, 0, 0)] (pc1 := 21) (lo1 := [some (.ref 26), some (.int (nI j)), some (.int dy), some (.int wy)]) (st1 := []) (μ1 := pm_set (pm_set (pm_set μ 31 ((nI j).toNatClampNeg) 2) 32 ((nI j).toNatClampNeg) dy) 33 ((nI j).toNatClampNeg) wy) (vc := vp_in (nI j) 30 ∧ vp_in (nI j) 30 ∧ vp_in (nI j) 30 ∧ True) rfl (by decide +kernel) rfl ⟨(vp_in_nI (by omega) (by omega)), (vp_in_nI (by omega) (by omega)), (vp_in_nI (by omega) (by omega)), trivial⟩ ?_
  try rw [nI_clamp (n := j) (by omega)]
  try rw [nI_clamp (n := j) (by omega)]
  try rw [nI_clamp (n := j) (by omega)]
  exact pm_vret rfl (by decide) (by decide) (by decide +kernel) (⟨(by repeat rw [pm_set_off (by decide)]), rfl, lr_fr.set (lr_fr.set (lr_fr.set lr_fr.rf (by omega) (by omega)) (by omega) (by omega)) (by omega) (by omega), lr_put_lrs (lr_put_len (lr_put_lst hR hB hj 2) (hB.upd (by omega)) (by rw [lr_n_upd (by omega)]; exact hj) dy) ((hB.upd (by omega)).upd (by omega)) (by rw [lr_n_upd (by omega), lr_n_upd (by omega)]; exact hj) wy⟩)
set_option maxHeartbeats 4000000 in
set_option maxRecDepth 100000 in
theorem c_X4_deliver9 {g : Nat → Int32} {j : Nat} (dy ho si : Int32) (μ : pm_Mm) (hR : lr_Rel μ.1 1 g) (hB : lr_B g) (hj : j < lr_n g 289) (hd1 : g 1 = nI (lr_n g 1)) (hD : lr_n g 1 < 30) (hu : ∀ i d, i < lr_n g 289 → g (300 + 11 * i) = nI d → d < 30 → d ≠ lr_n g 1) : pm_CT mi_X4_deliver [.ref 26, .int (nI j), .int dy, .int ho, .int si] μ (fun v μ2 => μ2.1 39 = μ.1 39 ∧ v = none ∧ lr_fr μ μ2 ∧ lr_Rel μ2.1 1 (lr_gdel g j dy ho si)) pm_NX := by
  refine pm_CT_of (lo := [some (.ref 26), some (.int (nI j)), some (.int dy), some (.int ho), some (.int si)]) (by decide +kernel) rfl rfl (by intro v hv; simp at hv; rcases hv with rfl | rfl | rfl | rfl | rfl <;> rfl) (Nat.le_of_ble_eq_true rfl) rfl ?_
  obtain ⟨hm1, hm3, hm2, hm4, hm5, hm6⟩ := id hB
  refine pm_bl [(.aload_n 0, 1, 0, 0, 0), (.getfield 15, 3, 4, 1, 0)] (pc1 := 4) (lo1 := [some (.ref 26), some (.int (nI j)), some (.int dy), some (.int ho), some (.int si)]) (st1 := [.int (μ.1 26 1)]) (μ1 := μ) (vc := True) rfl (by decide +kernel) rfl trivial ?_
  rw [lr_rD hR, hd1]
  refine pm_bl [(.bipush 30, 2, 0, 0, 30)] (pc1 := 6) (lo1 := [some (.ref 26), some (.int (nI j)), some (.int dy), some (.int ho), some (.int si)]) (st1 := [.int 30, .int (nI (lr_n g 1))]) (μ1 := μ) (vc := True) rfl (by decide +kernel) rfl trivial ?_
  refine pm_icmp_lt (off := 4) 10 (by decide +kernel) (by decide) (fun (h6 : (nI (lr_n g 1)) < 30) => ?_) (fun (h9 : ¬ ((nI (lr_n g 1)) < 30)) => absurd (nI_lt hD (by decide)) h9)
  refine pm_bl [(.aload_n 0, 1, 0, 0, 0), (.getfield 31, 3, 4, 6, 0), (.iload_n 1, 1, 1, 0, 0), (.iconst 1, 1, 0, 0, 1), (.iastore, 1, 0, 0, 0), (.aload_n 0, 1, 0, 0, 0), (.getfield 34, 3, 4, 7, 0), (.iload_n 1, 1, 1, 0, 0), (.iload_n 2, 1, 2, 0, 0), (.iastore, 1, 0, 0, 0), (.aload_n 0, 1, 0, 0, 0), (.getfield 43, 3, 4, 10, 0), (.iload_n 1, 1, 1, 0, 0), (.iload_n 3, 1, 3, 0, 0), (.iastore, 1, 0, 0, 0), (.aload_n 0, 1, 0, 0, 0), (.getfield 46, 3, 4, 11, 0), (.iload_n 1, 1, 1, 0, 0), (.iload 4, 2, 4, 0, 0), (.iastore, 1, 0, 0, 0), (.aload_n 0, 1, 0, 0, 0), (.getfield 49, 3, 4, 12, 0), (.iload_n 1, 1, 1, 0, 0), (.aload_n 0, 1, 0, 0, 0), (.getfield 15, 3, 4, 1, 0)] (pc1 := 48) (lo1 := [some (.ref 26), some (.int (nI j)), some (.int dy), some (.int ho), some (.int si)]) (st1 := [.int ((pm_set (pm_set (pm_set (pm_set μ 31 ((nI j).toNatClampNeg) 1) 32 ((nI j).toNatClampNeg) dy) 35 ((nI j).toNatClampNeg) ho) 36 ((nI j).toNatClampNeg) si).1 26 1), .int (nI j), .ref 37]) (μ1 := pm_set (pm_set (pm_set (pm_set μ 31 ((nI j).toNatClampNeg) 1) 32 ((nI j).toNatClampNeg) dy) 35 ((nI j).toNatClampNeg) ho) 36 ((nI j).toNatClampNeg) si) (vc := vp_in (nI j) 30 ∧ vp_in (nI j) 30 ∧ vp_in (nI j) 30 ∧ vp_in (nI j) 30 ∧ True) rfl (by decide +kernel) rfl ⟨(vp_in_nI (by omega) (by omega)), (vp_in_nI (by omega) (by omega)), (vp_in_nI (by omega) (by omega)), (vp_in_nI (by omega) (by omega)), trivial⟩ ?_
  rw [show (pm_set (pm_set (pm_set (pm_set μ 31 ((nI j).toNatClampNeg) 1) 32 ((nI j).toNatClampNeg) dy) 35 ((nI j).toNatClampNeg) ho) 36 ((nI j).toNatClampNeg) si).1 26 1 = μ.1 26 1 from by simp [pm_set]]
  rw [lr_rD hR, hd1]
  try rw [nI_clamp (n := j) (by omega)]
  try rw [nI_clamp (n := j) (by omega)]
  try rw [nI_clamp (n := j) (by omega)]
  try rw [nI_clamp (n := j) (by omega)]
  refine pm_bl [(.iastore, 1, 0, 0, 0), (.aload_n 0, 1, 0, 0, 0), (.getfield 52, 3, 4, 13, 0), (.aload_n 0, 1, 0, 0, 0), (.getfield 15, 3, 4, 1, 0)] (pc1 := 57) (lo1 := [some (.ref 26), some (.int (nI j)), some (.int dy), some (.int ho), some (.int si)]) (st1 := [.int ((pm_set (pm_set (pm_set (pm_set (pm_set μ 31 j 1) 32 j dy) 35 j ho) 36 j si) 37 ((nI j).toNatClampNeg) (nI (lr_n g 1))).1 26 1), .ref 38]) (μ1 := pm_set (pm_set (pm_set (pm_set (pm_set μ 31 j 1) 32 j dy) 35 j ho) 36 j si) 37 ((nI j).toNatClampNeg) (nI (lr_n g 1))) (vc := vp_in (nI j) 30 ∧ True) rfl (by decide +kernel) rfl ⟨(vp_in_nI (by omega) (by omega)), trivial⟩ ?_
  rw [show (pm_set (pm_set (pm_set (pm_set (pm_set μ 31 j 1) 32 j dy) 35 j ho) 36 j si) 37 ((nI j).toNatClampNeg) (nI (lr_n g 1))).1 26 1 = μ.1 26 1 from by simp [pm_set]]
  rw [lr_rD hR, hd1]
  try rw [nI_clamp (n := j) (by omega)]
  refine pm_bl [(.iload_n 1, 1, 1, 0, 0), (.iastore, 1, 0, 0, 0), (.aload_n 0, 1, 0, 0, 0), (.dup, 1, 0, 0, 0), (.getfield 15, 3, 4, 1, 0)] (pc1 := 64) (lo1 := [some (.ref 26), some (.int (nI j)), some (.int dy), some (.int ho), some (.int si)]) (st1 := [.int ((pm_set (pm_set (pm_set (pm_set (pm_set (pm_set μ 31 j 1) 32 j dy) 35 j ho) 36 j si) 37 j (nI (lr_n g 1))) 38 ((nI (lr_n g 1)).toNatClampNeg) (nI j)).1 26 1), .ref 26]) (μ1 := pm_set (pm_set (pm_set (pm_set (pm_set (pm_set μ 31 j 1) 32 j dy) 35 j ho) 36 j si) 37 j (nI (lr_n g 1))) 38 ((nI (lr_n g 1)).toNatClampNeg) (nI j)) (vc := vp_in (nI (lr_n g 1)) 30 ∧ True) rfl (by decide +kernel) rfl ⟨(vp_in_nI (by omega) (by omega)), trivial⟩ ?_
  rw [show (pm_set (pm_set (pm_set (pm_set (pm_set (pm_set μ 31 j 1) 32 j dy) 35 j ho) 36 j si) 37 j (nI (lr_n g 1))) 38 ((nI (lr_n g 1)).toNatClampNeg) (nI j)).1 26 1 = μ.1 26 1 from by simp [pm_set]]
  rw [lr_rD hR, hd1]
  try rw [nI_clamp (n := (lr_n g 1)) (by omega)]
  refine pm_bl [(.iconst 1, 1, 0, 0, 1), (.iadd, 1, 0, 0, 0), (.putfield 15, 3, 4, 1, 0)] (pc1 := 69) (lo1 := [some (.ref 26), some (.int (nI j)), some (.int dy), some (.int ho), some (.int si)]) (st1 := []) (μ1 := pm_set (pm_set (pm_set (pm_set (pm_set (pm_set (pm_set μ 31 j 1) 32 j dy) 35 j ho) 36 j si) 37 j (nI (lr_n g 1))) 38 (lr_n g 1) (nI j)) 26 1 ((nI (lr_n g 1)) + 1)) (vc := True) rfl (by decide +kernel) rfl trivial ?_
  exact pm_vret rfl (by decide) (by decide) (by decide +kernel) (by
    refine ⟨(by repeat rw [pm_set_off (by decide)]), rfl, lr_fr.set (lr_fr.set (lr_fr.set (lr_fr.set (lr_fr.set (lr_fr.set (lr_fr.set lr_fr.rf (by omega) (by omega)) (by omega) (by omega)) (by omega) (by omega)) (by omega) (by omega)) (by omega) (by omega)) (by omega) (by omega)) (by omega) (by omega), ?_⟩
    rw [nI_1]
    have r1 := lr_put_lst hR hB hj 1
    have b1 := hB.upd (k := 294 + 11 * j) (v := 1) (by omega)
    have r2 := lr_put_len r1 b1 (by rw [lr_n_upd (by omega)]; exact hj) dy
    have b2 := b1.upd (k := 295 + 11 * j) (v := dy) (by omega)
    have r3 := lr_put_lho r2 b2 (by rw [lr_n_upd (by omega), lr_n_upd (by omega)]; exact hj) ho
    have b3 := b2.upd (k := 298 + 11 * j) (v := ho) (by omega)
    have r4 := lr_put_lsi r3 b3 (by rw [lr_n_upd (by omega), lr_n_upd (by omega), lr_n_upd (by omega)]; exact hj) si
    have b4 := b3.upd (k := 299 + 11 * j) (v := si) (by omega)
    have e1 : lr_n (upd (upd (upd (upd g (294 + 11 * j) 1) (295 + 11 * j) dy) (298 + 11 * j) ho) (299 + 11 * j) si) 1 = lr_n g 1 := by rw [lr_n_upd (by omega), lr_n_upd (by omega), lr_n_upd (by omega), lr_n_upd (by omega)]
    have e2 : lr_n (upd (upd (upd (upd g (294 + 11 * j) 1) (295 + 11 * j) dy) (298 + 11 * j) ho) (299 + 11 * j) si) 289 = lr_n g 289 := by rw [lr_n_upd (by omega), lr_n_upd (by omega), lr_n_upd (by omega), lr_n_upd (by omega)]
    have r5 := lr_put_del r4 b4 (by rw [e2]; exact hj) (by rw [e1]; exact hD) (by
      intro i d hi hd h9
      rw [e2] at hi
      rw [e1]
      rw [upd_ne (by omega), upd_ne (by omega), upd_ne (by omega), upd_ne (by omega)] at hd
      exact hu i d hi hd h9)
    rw [e1] at r5
    exact r5)
/-- only the office moved, but not its row for one day -/
def lr_fr9 (μ μ2 : pm_Mm) : Prop := lr_fr μ μ2 ∧ μ2.1 39 = μ.1 39
theorem lr_fr9.rf {μ : pm_Mm} : lr_fr9 μ μ := ⟨lr_fr.rf, rfl⟩
theorem lr_fr9.tr {μ a b : pm_Mm} (h1 : lr_fr9 μ a) (h2 : lr_fr9 a b) : lr_fr9 μ b := ⟨h1.1.tr h2.1, h2.2.trans h1.2⟩
theorem lr_put_T {μ : pm_Mm} {g : Nat → Int32} (hR : lr_Rel μ.1 1 g) (hB : lr_B g) (v : Int32) : lr_Rel (pm_set μ 1 6 v).1 1 (upd g 0 v) := by
  obtain ⟨hm1, hm3, hm2, hm4, hm5, hm6⟩ := hB
  exact ⟨by rw [pm_set_hit, upd_eq], lr_Rh.st hR.2.1 hm1 (fun k h1 h2 => by rw [pm_set_off] <;> omega) (fun j h1 h2 => by rw [upd_ne] <;> omega), lr_Rp.st hR.2.2.1 hm3 (fun k h1 h2 => by rw [pm_set_off] <;> omega) (fun j h1 h2 => by rw [upd_ne] <;> omega), lr_Rw.st hR.2.2.2.1 hm2 (fun k h1 h2 => by rw [pm_set_off] <;> omega) (fun j h1 h2 => by rw [upd_ne] <;> omega), lr_Rr.st hR.2.2.2.2.1 hm4 (fun k h1 h2 => by rw [pm_set_off] <;> omega) (fun j h1 h2 => by rw [upd_ne] <;> omega), lr_Ra.st hR.2.2.2.2.2.1 hm5 (fun k h1 h2 => by rw [pm_set_off] <;> omega) (fun j h1 h2 => by rw [upd_ne] <;> omega), lr_Rl.st hR.2.2.2.2.2.2 hm6 (fun k h1 h2 => by rw [pm_set_off] <;> omega) (by rw [upd_ne] <;> omega) (fun j h1 h2 => by rw [upd_ne] <;> omega)⟩
set_option maxHeartbeats 4000000 in
set_option maxRecDepth 100000 in
theorem t_X5_applyFailure {g : Nat → Int32} {l : Nat} (P : Option Value → pm_Mm → Prop) (r : Int32) (μ : pm_Mm) (hR : lr_Rel μ.1 1 g) (hG : lr_G g) (hl : l < lr_n g 289) (hw : g (294 + 11 * l) = 0) (K : ∀ μ2, lr_fr9 μ μ2 → lr_Rel μ2.1 1 (lr_rt g l) → P none μ2) : pm_V mi_X5_applyFailure (P, pm_NX, fun _ _ _ => True) 0 0 78 [some (.ref 1), some (.int (nI l)), some (.int r)] [] μ := by
  have hm1 := lr_mh hG; have hm2 := lr_mw hG; have hm3 := lr_mp hG; have hm4 := lr_mr hG; have hm5 := lr_ma hG; have hm6 := lr_ml hG
  have hT := lr_gT hG
  refine pm_bl [(.aload_n 0, 1, 0, 0, 0), (.iload_n 1, 1, 1, 0, 0), (.aload_n 0, 1, 0, 0, 0), (.getfield 53, 3, 5, 6, 0)] (pc1 := 84) (lo1 := [some (.ref 1), some (.int (nI l)), some (.int r)]) (st1 := [.int (μ.1 1 6), .int (nI l), .ref 1]) (μ1 := μ) (vc := True) rfl (by decide +kernel) rfl trivial ?_
  rw [lr_rT hR, lr_gT hG]
  refine pm_callV2 mi_X5_isTooOld (ix := 155) (b := 1) (ci := 5) (kc2 := 0) (ks2 := 0) (As := [.int (nI l), .int (nI (lr_n g 0))]) (rest := []) (c_X5_isTooOld (j := l) (nI (lr_n g 0)) μ hR hG hl) cal_X5_isTooOld lk5_155 (by decide +kernel) rfl (by decide +kernel) rfl rfl rfl rfl (Nat.le_of_ble_eq_true rfl) (by decide) (by decide) (fun _ _ h9 => h9.elim) ?_
  rintro _ _ ⟨rfl, h9⟩; rw [h9]; clear h9
  show pm_V _ _ _ _ 87 _ [.int (lr_b (lr_old g l (nI (lr_n g 0))))] _
  refine pm_ifb_eq (off := 16) 103 (by decide +kernel) (by decide) (fun (h87 : (lr_old g l (nI (lr_n g 0))) = false) => ?_) (fun (h87 : (lr_old g l (nI (lr_n g 0))) = true) => ?_)
  · exact pm_vret rfl (by decide) (by decide) (by decide +kernel) (K μ lr_fr9.rf (by unfold lr_rt; rw [if_neg (by rw [hT]; intro e; unfold lr_old at h87; rw [decide_eq_false e.2] at h87; exact absurd h87 (by decide))]; exact hR))
  · refine pm_bl [(.aload_n 0, 1, 0, 0, 0), (.getfield 49, 3, 5, 5, 0), (.iload_n 1, 1, 1, 0, 0), (.aload_n 0, 1, 0, 0, 0), (.getfield 53, 3, 5, 6, 0)] (pc1 := 99) (lo1 := [some (.ref 1), some (.int (nI l)), some (.int r)]) (st1 := [.int (μ.1 1 6), .int (nI l), .ref 26]) (μ1 := μ) (vc := True) rfl (by decide +kernel) rfl trivial ?_
    rw [lr_rT hR, lr_gT hG]
    refine pm_bl [(.iconst 4, 1, 0, 0, 4)] (pc1 := 100) (lo1 := [some (.ref 1), some (.int (nI l)), some (.int r)]) (st1 := [.int 4, .int (nI (lr_n g 0)), .int (nI l), .ref 26]) (μ1 := μ) (vc := True) rfl (by decide +kernel) rfl trivial ?_
    refine pm_callV2 mi_X4_sendBack (ix := 176) (b := 26) (ci := 4) (kc2 := 0) (ks2 := 0) (As := [.int (nI l), .int (nI (lr_n g 0)), .int 4]) (rest := []) (c_X4_sendBack9 (j := l) (nI (lr_n g 0)) 4 μ hR hG.B hl) cal_X4_sendBack lk5_176 (by decide +kernel) rfl (by decide +kernel) rfl rfl rfl rfl (Nat.le_of_ble_eq_true rfl) (by decide) (by decide) (fun _ _ h9 => h9.elim) ?_
    rintro _ μ3 ⟨h39, rfl, hf, hr⟩
    show pm_V _ _ _ _ 103 _ [] _
    exact pm_vret rfl (by decide) (by decide) (by decide +kernel) (K μ3 ⟨hf, h39⟩ (by unfold lr_rt; rw [if_pos (by rw [hT]; exact ⟨hw, fun e => by unfold lr_old at h87; rw [decide_eq_true e] at h87; exact absurd h87 (by decide)⟩), hT]; exact hr))
set_option maxHeartbeats 4000000 in
set_option maxRecDepth 100000 in
theorem c_X5_applyFailure_0 {g : Nat → Int32} {l : Nat} (μ : pm_Mm) (hR : lr_Rel μ.1 1 g) (hG : lr_G g) (hl : l < lr_n g 289) (hw : g (294 + 11 * l) = 0) (ho : lr_oc g l (g 0) = 0) : pm_CT mi_X5_applyFailure [.ref 1, .int (nI l), .int 0] μ (fun v μ2 => v = none ∧ lr_fr9 μ μ2 ∧ lr_Rel μ2.1 1 (lr_one g l)) pm_NX := by
  refine pm_CT_of (lo := [some (.ref 1), some (.int (nI l)), some (.int 0)]) (by decide +kernel) rfl rfl (by intro v hv; simp at hv; rcases hv with rfl | rfl | rfl <;> rfl) (Nat.le_of_ble_eq_true rfl) rfl ?_
  have hm1 := lr_mh hG; have hm2 := lr_mw hG; have hm3 := lr_mp hG; have hm4 := lr_mr hG; have hm5 := lr_ma hG; have hm6 := lr_ml hG
  have hT := lr_gT hG
  have hst : lr_st g l = g := by unfold lr_st lr_look; rw [if_pos hw, ho, if_pos rfl]
  refine pm_bl [(.iload_n 2, 1, 2, 0, 0), (.iconst 3, 1, 0, 0, 3)] (pc1 := 2) (lo1 := [some (.ref 1), some (.int (nI l)), some (.int 0)]) (st1 := [.int 3, .int 0]) (μ1 := μ) (vc := True) rfl (by decide +kernel) rfl trivial ?_
  refine pm_icmp_ne (off := 16) 18 (by decide +kernel) (by decide) (fun _ => ?_) (fun h9 => absurd h9 (by decide))
  refine pm_bl [(.iload_n 2, 1, 2, 0, 0), (.iconst 1, 1, 0, 0, 1)] (pc1 := 20) (lo1 := [some (.ref 1), some (.int (nI l)), some (.int 0)]) (st1 := [.int 1, .int 0]) (μ1 := μ) (vc := True) rfl (by decide +kernel) rfl trivial ?_
  refine pm_icmp_eq (off := 8) 28 (by decide +kernel) (by decide) (fun h9 => absurd h9 (by decide)) (fun _ => ?_)
  refine pm_bl [(.iload_n 2, 1, 2, 0, 0), (.iconst 2, 1, 0, 0, 2)] (pc1 := 25) (lo1 := [some (.ref 1), some (.int (nI l)), some (.int 0)]) (st1 := [.int 2, .int 0]) (μ1 := μ) (vc := True) rfl (by decide +kernel) rfl trivial ?_
  refine pm_icmp_ne (off := 19) 44 (by decide +kernel) (by decide) (fun _ => ?_) (fun h9 => absurd h9 (by decide))
  refine pm_bl [(.iload_n 2, 1, 2, 0, 0), (.iconst 3, 1, 0, 0, 3)] (pc1 := 46) (lo1 := [some (.ref 1), some (.int (nI l)), some (.int 0)]) (st1 := [.int 3, .int 0]) (μ1 := μ) (vc := True) rfl (by decide +kernel) rfl trivial ?_
  refine pm_icmp_ne (off := 32) 78 (by decide +kernel) (by decide) (fun _ => ?_) (fun h9 => absurd h9 (by decide))
  exact t_X5_applyFailure _ 0 μ hR hG hl hw (fun μ2 hf hr => ⟨rfl, hf, by unfold lr_one; rw [hst]; exact hr⟩)
set_option maxHeartbeats 4000000 in
set_option maxRecDepth 100000 in
theorem c_X5_applyFailure_1 {g : Nat → Int32} {l : Nat} (μ : pm_Mm) (hR : lr_Rel μ.1 1 g) (hG : lr_G g) (hl : l < lr_n g 289) (hw : g (294 + 11 * l) = 0) (ho : lr_oc g l (g 0) = 1) : pm_CT mi_X5_applyFailure [.ref 1, .int (nI l), .int 1] μ (fun v μ2 => v = none ∧ lr_fr9 μ μ2 ∧ lr_Rel μ2.1 1 (lr_one g l)) pm_NX := by
  refine pm_CT_of (lo := [some (.ref 1), some (.int (nI l)), some (.int 1)]) (by decide +kernel) rfl rfl (by intro v hv; simp at hv; rcases hv with rfl | rfl | rfl <;> rfl) (Nat.le_of_ble_eq_true rfl) rfl ?_
  have hm1 := lr_mh hG; have hm2 := lr_mw hG; have hm3 := lr_mp hG; have hm4 := lr_mr hG; have hm5 := lr_ma hG; have hm6 := lr_ml hG
  have hT := lr_gT hG
  have hst : lr_st g l = lr_gret g l (g 0) 1 := by unfold lr_st lr_look; rw [if_pos hw, ho, if_neg (by decide), if_pos rfl]
  refine pm_bl [(.iload_n 2, 1, 2, 0, 0), (.iconst 3, 1, 0, 0, 3)] (pc1 := 2) (lo1 := [some (.ref 1), some (.int (nI l)), some (.int 1)]) (st1 := [.int 3, .int 1]) (μ1 := μ) (vc := True) rfl (by decide +kernel) rfl trivial ?_
  refine pm_icmp_ne (off := 16) 18 (by decide +kernel) (by decide) (fun _ => ?_) (fun h9 => absurd h9 (by decide))
  refine pm_bl [(.iload_n 2, 1, 2, 0, 0), (.iconst 1, 1, 0, 0, 1)] (pc1 := 20) (lo1 := [some (.ref 1), some (.int (nI l)), some (.int 1)]) (st1 := [.int 1, .int 1]) (μ1 := μ) (vc := True) rfl (by decide +kernel) rfl trivial ?_
  refine pm_icmp_eq (off := 8) 28 (by decide +kernel) (by decide) (fun _ => ?_) (fun h9 => absurd h9 (by decide))
  refine pm_bl [(.aload_n 0, 1, 0, 0, 0), (.getfield 49, 3, 5, 5, 0), (.iload_n 1, 1, 1, 0, 0), (.aload_n 0, 1, 0, 0, 0), (.getfield 53, 3, 5, 6, 0)] (pc1 := 37) (lo1 := [some (.ref 1), some (.int (nI l)), some (.int 1)]) (st1 := [.int (μ.1 1 6), .int (nI l), .ref 26]) (μ1 := μ) (vc := True) rfl (by decide +kernel) rfl trivial ?_
  rw [lr_rT hR, lr_gT hG]
  refine pm_bl [(.iload_n 2, 1, 2, 0, 0)] (pc1 := 38) (lo1 := [some (.ref 1), some (.int (nI l)), some (.int 1)]) (st1 := [.int 1, .int (nI (lr_n g 0)), .int (nI l), .ref 26]) (μ1 := μ) (vc := True) rfl (by decide +kernel) rfl trivial ?_
  refine pm_callV2 mi_X4_sendBack (ix := 176) (b := 26) (ci := 4) (kc2 := 0) (ks2 := 0) (As := [.int (nI l), .int (nI (lr_n g 0)), .int 1]) (rest := []) (c_X4_sendBack9 (j := l) (nI (lr_n g 0)) 1 μ hR hG.B hl) cal_X4_sendBack lk5_176 (by decide +kernel) rfl (by decide +kernel) rfl rfl rfl rfl (Nat.le_of_ble_eq_true rfl) (by decide) (by decide) (fun _ _ h9 => h9.elim) ?_
  rintro _ μ3 ⟨h39, rfl, hf, hr⟩
  show pm_V _ _ _ _ 41 _ [] _
  refine pm_bl [(.goto 62, 3, 103, 0, 0)] (pc1 := 103) (lo1 := [some (.ref 1), some (.int (nI l)), some (.int 1)]) (st1 := []) (μ1 := μ3) (vc := True) rfl (by decide +kernel) rfl trivial ?_
  exact pm_vret rfl (by decide) (by decide) (by decide +kernel) (⟨rfl, ⟨hf, h39⟩, by unfold lr_one lr_rt; rw [hst, if_neg (fun e => by have q := e.1; rw [lr_gret_4] at q; exact absurd q (by decide)), hT]; exact hr⟩)
set_option maxHeartbeats 4000000 in
set_option maxRecDepth 100000 in
theorem c_X5_applyFailure_2 {g : Nat → Int32} {l : Nat} (μ : pm_Mm) (hR : lr_Rel μ.1 1 g) (hG : lr_G g) (hl : l < lr_n g 289) (hw : g (294 + 11 * l) = 0) (ho : lr_oc g l (g 0) = 2) : pm_CT mi_X5_applyFailure [.ref 1, .int (nI l), .int 2] μ (fun v μ2 => v = none ∧ lr_fr9 μ μ2 ∧ lr_Rel μ2.1 1 (lr_one g l)) pm_NX := by
  refine pm_CT_of (lo := [some (.ref 1), some (.int (nI l)), some (.int 2)]) (by decide +kernel) rfl rfl (by intro v hv; simp at hv; rcases hv with rfl | rfl | rfl <;> rfl) (Nat.le_of_ble_eq_true rfl) rfl ?_
  have hm1 := lr_mh hG; have hm2 := lr_mw hG; have hm3 := lr_mp hG; have hm4 := lr_mr hG; have hm5 := lr_ma hG; have hm6 := lr_ml hG
  have hT := lr_gT hG
  have hst : lr_st g l = lr_gret g l (g 0) 2 := by unfold lr_st lr_look; rw [if_pos hw, ho, if_neg (by decide), if_neg (by decide), if_pos rfl]
  refine pm_bl [(.iload_n 2, 1, 2, 0, 0), (.iconst 3, 1, 0, 0, 3)] (pc1 := 2) (lo1 := [some (.ref 1), some (.int (nI l)), some (.int 2)]) (st1 := [.int 3, .int 2]) (μ1 := μ) (vc := True) rfl (by decide +kernel) rfl trivial ?_
  refine pm_icmp_ne (off := 16) 18 (by decide +kernel) (by decide) (fun _ => ?_) (fun h9 => absurd h9 (by decide))
  refine pm_bl [(.iload_n 2, 1, 2, 0, 0), (.iconst 1, 1, 0, 0, 1)] (pc1 := 20) (lo1 := [some (.ref 1), some (.int (nI l)), some (.int 2)]) (st1 := [.int 1, .int 2]) (μ1 := μ) (vc := True) rfl (by decide +kernel) rfl trivial ?_
  refine pm_icmp_eq (off := 8) 28 (by decide +kernel) (by decide) (fun h9 => absurd h9 (by decide)) (fun _ => ?_)
  refine pm_bl [(.iload_n 2, 1, 2, 0, 0), (.iconst 2, 1, 0, 0, 2)] (pc1 := 25) (lo1 := [some (.ref 1), some (.int (nI l)), some (.int 2)]) (st1 := [.int 2, .int 2]) (μ1 := μ) (vc := True) rfl (by decide +kernel) rfl trivial ?_
  refine pm_icmp_ne (off := 19) 44 (by decide +kernel) (by decide) (fun h9 => absurd h9 (by decide)) (fun _ => ?_)
  refine pm_bl [(.aload_n 0, 1, 0, 0, 0), (.getfield 49, 3, 5, 5, 0), (.iload_n 1, 1, 1, 0, 0), (.aload_n 0, 1, 0, 0, 0), (.getfield 53, 3, 5, 6, 0)] (pc1 := 37) (lo1 := [some (.ref 1), some (.int (nI l)), some (.int 2)]) (st1 := [.int (μ.1 1 6), .int (nI l), .ref 26]) (μ1 := μ) (vc := True) rfl (by decide +kernel) rfl trivial ?_
  rw [lr_rT hR, lr_gT hG]
  refine pm_bl [(.iload_n 2, 1, 2, 0, 0)] (pc1 := 38) (lo1 := [some (.ref 1), some (.int (nI l)), some (.int 2)]) (st1 := [.int 2, .int (nI (lr_n g 0)), .int (nI l), .ref 26]) (μ1 := μ) (vc := True) rfl (by decide +kernel) rfl trivial ?_
  refine pm_callV2 mi_X4_sendBack (ix := 176) (b := 26) (ci := 4) (kc2 := 0) (ks2 := 0) (As := [.int (nI l), .int (nI (lr_n g 0)), .int 2]) (rest := []) (c_X4_sendBack9 (j := l) (nI (lr_n g 0)) 2 μ hR hG.B hl) cal_X4_sendBack lk5_176 (by decide +kernel) rfl (by decide +kernel) rfl rfl rfl rfl (Nat.le_of_ble_eq_true rfl) (by decide) (by decide) (fun _ _ h9 => h9.elim) ?_
  rintro _ μ3 ⟨h39, rfl, hf, hr⟩
  show pm_V _ _ _ _ 41 _ [] _
  refine pm_bl [(.goto 62, 3, 103, 0, 0)] (pc1 := 103) (lo1 := [some (.ref 1), some (.int (nI l)), some (.int 2)]) (st1 := []) (μ1 := μ3) (vc := True) rfl (by decide +kernel) rfl trivial ?_
  exact pm_vret rfl (by decide) (by decide) (by decide +kernel) (⟨rfl, ⟨hf, h39⟩, by unfold lr_one lr_rt; rw [hst, if_neg (fun e => by have q := e.1; rw [lr_gret_4] at q; exact absurd q (by decide)), hT]; exact hr⟩)
set_option maxHeartbeats 4000000 in
set_option maxRecDepth 100000 in
theorem c_X5_applyFailure_3 {g : Nat → Int32} {l : Nat} (μ : pm_Mm) (hR : lr_Rel μ.1 1 g) (hG : lr_G g) (hl : l < lr_n g 289) {t : Nat} (hw : g (294 + 11 * l) = 0) (ho : lr_oc g l (g 0) = 3) (ht : g (297 + 11 * l) = nI t) (ht2 : t ≤ 2) : pm_CT mi_X5_applyFailure [.ref 1, .int (nI l), .int 3] μ (fun v μ2 => v = none ∧ lr_fr9 μ μ2 ∧ lr_Rel μ2.1 1 (lr_one g l)) pm_NX := by
  refine pm_CT_of (lo := [some (.ref 1), some (.int (nI l)), some (.int 3)]) (by decide +kernel) rfl rfl (by intro v hv; simp at hv; rcases hv with rfl | rfl | rfl <;> rfl) (Nat.le_of_ble_eq_true rfl) rfl ?_
  have hm1 := lr_mh hG; have hm2 := lr_mw hG; have hm3 := lr_mp hG; have hm4 := lr_mr hG; have hm5 := lr_ma hG; have hm6 := lr_ml hG
  have hT := lr_gT hG
  have hG1 : lr_G (upd g (297 + 11 * l) (nI (t + 1))) := hG.try hl (by omega)
  have hR1 : lr_Rel (pm_set μ 34 l (nI (t + 1))).1 1 (upd g (297 + 11 * l) (nI (t + 1))) := lr_put_ltr hR hG.B hl _
  have hn1 : lr_n (upd g (297 + 11 * l) (nI (t + 1))) 289 = lr_n g 289 := lr_n_upd (by omega)
  have hf1 : lr_fr9 μ (pm_set μ 34 l (nI (t + 1))) := ⟨lr_fr.rf.set (by omega) (by omega), pm_set_off (by decide)⟩
  have h01 : upd g (297 + 11 * l) (nI (t + 1)) 0 = nI (lr_n g 0) := by rw [upd_ne (by omega)]; exact hT
  have hst : lr_st g l = if nI (t + 1) = 3 then lr_gret (upd g (297 + 11 * l) (nI (t + 1))) l (g 0) 3 else upd g (297 + 11 * l) (nI (t + 1)) := by
    unfold lr_st lr_look; rw [if_pos hw, ho, if_neg (by decide), if_neg (by decide), if_neg (by decide), if_neg (by decide), ht, nI_1]
  refine pm_bl [(.iload_n 2, 1, 2, 0, 0), (.iconst 3, 1, 0, 0, 3)] (pc1 := 2) (lo1 := [some (.ref 1), some (.int (nI l)), some (.int 3)]) (st1 := [.int 3, .int 3]) (μ1 := μ) (vc := True) rfl (by decide +kernel) rfl trivial ?_
  refine pm_icmp_ne (off := 16) 18 (by decide +kernel) (by decide) (fun h9 => absurd h9 (by decide)) (fun _ => ?_)
  refine pm_bl [(.aload_n 0, 1, 0, 0, 0), (.getfield 49, 3, 5, 5, 0), (.getfield 149, 3, 4, 9, 0), (.iload_n 1, 1, 1, 0, 0), (.dup2, 1, 0, 0, 0), (.iaload, 1, 0, 0, 0), (.iconst 1, 1, 0, 0, 1)] (pc1 := 16) (lo1 := [some (.ref 1), some (.int (nI l)), some (.int 3)]) (st1 := [.int 1, .int (μ.1 34 (nI l).toNatClampNeg), .int (nI l), .ref 34]) (μ1 := μ) (vc := vp_in (nI l) 30 ∧ True) rfl (by decide +kernel) rfl ⟨(vp_in_nI (by omega) (by omega)), trivial⟩ ?_
  first | rw [nI_clamp (n := l) (by omega), lr_rltr hR hl, ht] | rw [lr_rltr hR hl, ht]
  refine pm_bl [(.iadd, 1, 0, 0, 0), (.iastore, 1, 0, 0, 0)] (pc1 := 18) (lo1 := [some (.ref 1), some (.int (nI l)), some (.int 3)]) (st1 := []) (μ1 := pm_set μ 34 ((nI l).toNatClampNeg) ((nI t) + 1)) (vc := vp_in (nI l) 30 ∧ True) rfl (by decide +kernel) rfl ⟨(vp_in_nI (by omega) (by omega)), trivial⟩ ?_
  try rw [nI_clamp (n := l) (by omega)]
  try rw [nI_clamp (n := l) (by omega)]
  rw [nI_1]
  obtain ⟨M, hMd⟩ : ∃ M, M = pm_set μ 34 l (nI (t + 1)) := ⟨_, rfl⟩
  rw [← hMd] at hR1 hf1 ⊢
  have hm34 : M.1 34 l = nI (t + 1) := by rw [hMd, pm_set_hit]
  have hm16 : M.1 1 6 = nI (lr_n g 0) := by rw [lr_rT hR1]; exact h01
  refine pm_bl [(.iload_n 2, 1, 2, 0, 0), (.iconst 1, 1, 0, 0, 1)] (pc1 := 20) (lo1 := [some (.ref 1), some (.int (nI l)), some (.int 3)]) (st1 := [.int 1, .int 3]) (μ1 := M) (vc := True) rfl (by decide +kernel) rfl trivial ?_
  refine pm_icmp_eq (off := 8) 28 (by decide +kernel) (by decide) (fun h9 => absurd h9 (by decide)) (fun _ => ?_)
  refine pm_bl [(.iload_n 2, 1, 2, 0, 0), (.iconst 2, 1, 0, 0, 2)] (pc1 := 25) (lo1 := [some (.ref 1), some (.int (nI l)), some (.int 3)]) (st1 := [.int 2, .int 3]) (μ1 := M) (vc := True) rfl (by decide +kernel) rfl trivial ?_
  refine pm_icmp_ne (off := 19) 44 (by decide +kernel) (by decide) (fun _ => ?_) (fun h9 => absurd h9 (by decide))
  refine pm_bl [(.iload_n 2, 1, 2, 0, 0), (.iconst 3, 1, 0, 0, 3)] (pc1 := 46) (lo1 := [some (.ref 1), some (.int (nI l)), some (.int 3)]) (st1 := [.int 3, .int 3]) (μ1 := M) (vc := True) rfl (by decide +kernel) rfl trivial ?_
  refine pm_icmp_ne (off := 32) 78 (by decide +kernel) (by decide) (fun h9 => absurd h9 (by decide)) (fun _ => ?_)
  refine pm_bl [(.aload_n 0, 1, 0, 0, 0), (.getfield 49, 3, 5, 5, 0), (.getfield 149, 3, 4, 9, 0), (.iload_n 1, 1, 1, 0, 0), (.iaload, 1, 0, 0, 0), (.iconst 3, 1, 0, 0, 3)] (pc1 := 59) (lo1 := [some (.ref 1), some (.int (nI l)), some (.int 3)]) (st1 := [.int 3, .int (M.1 34 (nI l).toNatClampNeg)]) (μ1 := M) (vc := vp_in (nI l) 30 ∧ True) rfl (by decide +kernel) rfl ⟨(vp_in_nI (by omega) (by omega)), trivial⟩ ?_
  first | rw [nI_clamp (n := l) (by omega), hm34] | rw [hm34]
  refine pm_icmp_lt (off := 19) 78 (by decide +kernel) (by decide) (fun (h59 : (nI (t + 1)) < 3) => ?_) (fun (h59 : ¬ ((nI (t + 1)) < 3)) => ?_)
  · exact t_X5_applyFailure _ 3 _ hR1 hG1 (by rw [hn1]; exact hl) (by rw [upd_ne (by omega)]; exact hw) (fun μ2 hf hr => ⟨rfl, hf1.tr hf, by unfold lr_one; rw [hst, if_neg (fun e => by rw [e] at h59; exact absurd h59 (by decide))]; exact hr⟩)
  · refine pm_bl [(.aload_n 0, 1, 0, 0, 0), (.getfield 49, 3, 5, 5, 0), (.iload_n 1, 1, 1, 0, 0), (.aload_n 0, 1, 0, 0, 0), (.getfield 53, 3, 5, 6, 0)] (pc1 := 71) (lo1 := [some (.ref 1), some (.int (nI l)), some (.int 3)]) (st1 := [.int (M.1 1 6), .int (nI l), .ref 26]) (μ1 := M) (vc := True) rfl (by decide +kernel) rfl trivial ?_
    rw [hm16]
    refine pm_bl [(.iconst 3, 1, 0, 0, 3)] (pc1 := 72) (lo1 := [some (.ref 1), some (.int (nI l)), some (.int 3)]) (st1 := [.int 3, .int (nI (lr_n g 0)), .int (nI l), .ref 26]) (μ1 := M) (vc := True) rfl (by decide +kernel) rfl trivial ?_
    refine pm_callV2 mi_X4_sendBack (ix := 176) (b := 26) (ci := 4) (kc2 := 0) (ks2 := 0) (As := [.int (nI l), .int (nI (lr_n g 0)), .int 3]) (rest := []) (c_X4_sendBack9 (g := upd g (297 + 11 * l) (nI (t + 1))) (j := l) (nI (lr_n g 0)) 3 _ hR1 hG1.B (by rw [hn1]; exact hl)) cal_X4_sendBack lk5_176 (by decide +kernel) rfl (by decide +kernel) rfl rfl rfl rfl (Nat.le_of_ble_eq_true rfl) (by decide) (by decide) (fun _ _ h9 => h9.elim) ?_
    rintro _ μ3 ⟨h39, rfl, hf, hr⟩
    show pm_V _ _ _ _ 75 _ [] _
    refine pm_bl [(.goto 28, 3, 103, 0, 0)] (pc1 := 103) (lo1 := [some (.ref 1), some (.int (nI l)), some (.int 3)]) (st1 := []) (μ1 := μ3) (vc := True) rfl (by decide +kernel) rfl trivial ?_
    exact pm_vret rfl (by decide) (by decide) (by decide +kernel) (⟨rfl, hf1.tr ⟨hf, h39⟩, by have e3 : nI (t + 1) = 3 := (by rw [show t + 1 = 3 from by have := (nJ_le (a := 3) (by omega) (by omega)).mp (Int32.not_lt.mp h59); omega]; rfl); unfold lr_one lr_rt; rw [hst, if_pos e3, if_neg (fun e => by have q := e.1; rw [lr_gret_4] at q; exact absurd q (by decide)), hT]; exact hr⟩)
