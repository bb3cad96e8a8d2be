/-! letters: made, sent back, delivered; permissions; absences and redirects dropped; a redirect tried -/
def lr_gret (g : Nat → Int32) (j : Nat) (dy wy : Int32) : Nat → Int32 := upd (upd (upd g (294 + 11 * j) 2) (295 + 11 * j) dy) (296 + 11 * j) wy
set_option maxHeartbeats 4000000 in
set_option maxRecDepth 100000 in
theorem c_X4_sendBack {g : Nat → Int32} {j : Nat} (dy wy : Int32) (μ : pm_Mm) (hR : lr_Rel μ.1 1 g) (hB : lr_B g) (hj : j < lr_n g 289) : pm_CT mi_X4_sendBack [.ref 26, .int (nI j), .int dy, .int wy] μ (fun v μ2 => v = none ∧ lr_fr μ μ2 ∧ lr_Rel μ2.1 1 (lr_gret g j dy wy)) pm_NX := by
  refine pm_CT_of (lo := [some (.ref 26), some (.int (nI j)), some (.int dy), some (.int wy)]) (by decide +kernel) rfl rfl (by intro v hv; simp at hv; rcases hv with rfl | rfl | rfl | rfl <;> rfl) (Nat.le_of_ble_eq_true rfl) rfl ?_
  obtain ⟨hm1, hm3, hm2, hm4, hm5, hm6⟩ := id hB
  refine pm_bl [(.aload_n 0, 1, 0, 0, 0), (.getfield 31, 3, 4, 6, 0), (.iload_n 1, 1, 1, 0, 0), (.iconst 2, 1, 0, 0, 2), (.iastore, 1, 0, 0, 0), (.aload_n 0, 1, 0, 0, 0), (.getfield 34, 3, 4, 7, 0), (.iload_n 1, 1, 1, 0, 0), (.iload_n 2, 1, 2, 0, 0), (.iastore, 1, 0, 0, 0), (.aload_n 0, 1, 0, 0, 0), (.getfield 37, 3, 4, 8, 0), (.iload_n 1, 1, 1, 0, 0), (.iload_n 3, 1, 3, 0, 0), (.iastore, 1, 0, 0, 0)] (pc1 := 21) (lo1 := [some (.ref 26), some (.int (nI j)), some (.int dy), some (.int wy)]) (st1 := []) (μ1 := pm_set (pm_set (pm_set μ 31 ((nI j).toNatClampNeg) 2) 32 ((nI j).toNatClampNeg) dy) 33 ((nI j).toNatClampNeg) wy) (vc := vp_in (nI j) 30 ∧ vp_in (nI j) 30 ∧ vp_in (nI j) 30 ∧ True) rfl (by decide +kernel) rfl ⟨(vp_in_nI (by omega) (by omega)), (vp_in_nI (by omega) (by omega)), (vp_in_nI (by omega) (by omega)), trivial⟩ ?_
  try rw [nI_clamp (n := j) (by omega)]
  try rw [nI_clamp (n := j) (by omega)]
  try rw [nI_clamp (n := j) (by omega)]
  exact pm_vret rfl (by decide) (by decide) (by decide +kernel) (⟨rfl, lr_fr.set (lr_fr.set (lr_fr.set lr_fr.rf (by omega) (by omega)) (by omega) (by omega)) (by omega) (by omega), lr_put_lrs (lr_put_len (lr_put_lst hR hB hj 2) (hB.upd (by omega)) (by rw [lr_n_upd (by omega)]; exact hj) dy) ((hB.upd (by omega)).upd (by omega)) (by rw [lr_n_upd (by omega), lr_n_upd (by omega)]; exact hj) wy⟩)
theorem lr_put_del {μ : pm_Mm} {g : Nat → Int32} (hR : lr_Rel μ.1 1 g) (hB : lr_B g) {j : Nat} (hj : j < lr_n g 289) (hD : lr_n g 1 < 30) (hu : ∀ i d, i < lr_n g 289 → g (300 + 11 * i) = nI d → d < 30 → d ≠ lr_n g 1) :
    lr_Rel (pm_set (pm_set (pm_set μ 37 j (nI (lr_n g 1))) 38 (lr_n g 1) (nI j)) 26 1 (nI (lr_n g 1 + 1))).1 1 (upd (upd g (300 + 11 * j) (nI (lr_n g 1))) 1 (nI (lr_n g 1 + 1))) := by
  obtain ⟨hm1, hm3, hm2, hm4, hm5, hm6⟩ := hB
  refine ⟨by rw [pm_set_off, pm_set_off, pm_set_off, upd_ne, upd_ne]; exact hR.1; all_goals omega, lr_Rh.st hR.2.1 hm1 (fun k h1 h2 => by rw [pm_set_off, pm_set_off, pm_set_off] <;> omega) (fun j h1 h2 => by rw [upd_ne, upd_ne] <;> omega), lr_Rp.st hR.2.2.1 hm3 (fun k h1 h2 => by rw [pm_set_off, pm_set_off, pm_set_off] <;> omega) (fun j h1 h2 => by rw [upd_ne, upd_ne] <;> omega), lr_Rw.st hR.2.2.2.1 hm2 (fun k h1 h2 => by rw [pm_set_off, pm_set_off, pm_set_off] <;> omega) (fun j h1 h2 => by rw [upd_ne, upd_ne] <;> omega), lr_Rr.st hR.2.2.2.2.1 hm4 (fun k h1 h2 => by rw [pm_set_off, pm_set_off, pm_set_off] <;> omega) (fun j h1 h2 => by rw [upd_ne, upd_ne] <;> omega), lr_Ra.st hR.2.2.2.2.2.1 hm5 (fun k h1 h2 => by rw [pm_set_off, pm_set_off, pm_set_off] <;> omega) (fun j h1 h2 => by rw [upd_ne, upd_ne] <;> omega), ?_⟩
  obtain ⟨h0, h1, h2, h3⟩ := hR.2.2.2.2.2.2
  refine ⟨by simp only [Nat.reduceAdd]; rw [pm_set_hit, upd_eq], by simp only [Nat.reduceAdd]; rw [pm_set_miss, pm_set_miss, pm_set_miss, upd_ne, upd_ne]; exact h1; all_goals (first | exact Or.inl (by decide) | exact Or.inr (by omega) | omega), fun i hi => ?_, fun i d hi hd h9 => ?_⟩
  · rw [lr_n_upd (by omega), lr_n_upd (by omega)] at hi
    simp only [Nat.reduceAdd]
    obtain ⟨q0, q1, q2, q3, q4, q5, q6, q7, q8, q9, q10⟩ := h2 i hi
    by_cases e : i = j
    · subst e
      exact ⟨by rw [pm_set_miss, pm_set_miss, pm_set_miss, upd_ne, upd_ne]; exact q0; all_goals (first | exact Or.inl (by decide) | exact Or.inr (by omega) | omega), by rw [pm_set_miss, pm_set_miss, pm_set_miss, upd_ne, upd_ne]; exact q1; all_goals (first | exact Or.inl (by decide) | exact Or.inr (by omega) | omega), by rw [pm_set_miss, pm_set_miss, pm_set_miss, upd_ne, upd_ne]; exact q2; all_goals (first | exact Or.inl (by decide) | exact Or.inr (by omega) | omega), by rw [pm_set_miss, pm_set_miss, pm_set_miss, upd_ne, upd_ne]; exact q3; all_goals (first | exact Or.inl (by decide) | exact Or.inr (by omega) | omega), by rw [pm_set_miss, pm_set_miss, pm_set_miss, upd_ne, upd_ne]; exact q4; all_goals (first | exact Or.inl (by decide) | exact Or.inr (by omega) | omega), by rw [pm_set_miss, pm_set_miss, pm_set_miss, upd_ne, upd_ne]; exact q5; all_goals (first | exact Or.inl (by decide) | exact Or.inr (by omega) | omega), by rw [pm_set_miss, pm_set_miss, pm_set_miss, upd_ne, upd_ne]; exact q6; all_goals (first | exact Or.inl (by decide) | exact Or.inr (by omega) | omega), by rw [pm_set_miss, pm_set_miss, pm_set_miss, upd_ne, upd_ne]; exact q7; all_goals (first | exact Or.inl (by decide) | exact Or.inr (by omega) | omega), by rw [pm_set_miss, pm_set_miss, pm_set_miss, upd_ne, upd_ne]; exact q8; all_goals (first | exact Or.inl (by decide) | exact Or.inr (by omega) | omega), by rw [pm_set_miss, pm_set_miss, pm_set_miss, upd_ne, upd_ne]; exact q9; all_goals (first | exact Or.inl (by decide) | exact Or.inr (by omega) | omega), by rw [pm_set_miss, pm_set_miss, pm_set_hit, upd_ne, upd_eq]; all_goals (first | exact Or.inl (by decide) | exact Or.inr (by omega) | omega)⟩
    · exact ⟨by rw [pm_set_miss, pm_set_miss, pm_set_miss, upd_ne, upd_ne]; exact q0; all_goals (first | exact Or.inl (by decide) | exact Or.inr (by omega) | omega), by rw [pm_set_miss, pm_set_miss, pm_set_miss, upd_ne, upd_ne]; exact q1; all_goals (first | exact Or.inl (by decide) | exact Or.inr (by omega) | omega), by rw [pm_set_miss, pm_set_miss, pm_set_miss, upd_ne, upd_ne]; exact q2; all_goals (first | exact Or.inl (by decide) | exact Or.inr (by omega) | omega), by rw [pm_set_miss, pm_set_miss, pm_set_miss, upd_ne, upd_ne]; exact q3; all_goals (first | exact Or.inl (by decide) | exact Or.inr (by omega) | omega), by rw [pm_set_miss, pm_set_miss, pm_set_miss, upd_ne, upd_ne]; exact q4; all_goals (first | exact Or.inl (by decide) | exact Or.inr (by omega) | omega), by rw [pm_set_miss, pm_set_miss, pm_set_miss, upd_ne, upd_ne]; exact q5; all_goals (first | exact Or.inl (by decide) | exact Or.inr (by omega) | omega), by rw [pm_set_miss, pm_set_miss, pm_set_miss, upd_ne, upd_ne]; exact q6; all_goals (first | exact Or.inl (by decide) | exact Or.inr (by omega) | omega), by rw [pm_set_miss, pm_set_miss, pm_set_miss, upd_ne, upd_ne]; exact q7; all_goals (first | exact Or.inl (by decide) | exact Or.inr (by omega) | omega), by rw [pm_set_miss, pm_set_miss, pm_set_miss, upd_ne, upd_ne]; exact q8; all_goals (first | exact Or.inl (by decide) | exact Or.inr (by omega) | omega), by rw [pm_set_miss, pm_set_miss, pm_set_miss, upd_ne, upd_ne]; exact q9; all_goals (first | exact Or.inl (by decide) | exact Or.inr (by omega) | omega), by rw [pm_set_miss, pm_set_miss, pm_set_miss, upd_ne, upd_ne]; exact q10; all_goals (first | exact Or.inl (by decide) | exact Or.inr (by omega) | omega)⟩
  · rw [lr_n_upd (by omega), lr_n_upd (by omega)] at hi
    simp only [Nat.reduceAdd]
    by_cases e : i = j
    · subst e
      rw [upd_ne (by omega), upd_eq] at hd
      have hd2 := (nI_eq (by omega) (by omega)).mp hd
      rw [pm_set_miss (Or.inl (by decide)), ← hd2, pm_set_hit]
    · rw [upd_ne (by omega), upd_ne (by omega)] at hd
      have := hu i d hi hd h9
      rw [pm_set_miss (Or.inl (by decide)), pm_set_miss (Or.inr this), pm_set_miss (Or.inl (by decide))]
      exact h3 i d hi hd h9
def lr_gdel (g : Nat → Int32) (j : Nat) (dy ho si : Int32) : Nat → Int32 := upd (upd (upd (upd (upd (upd g (294 + 11 * j) 1) (295 + 11 * j) dy) (298 + 11 * j) ho) (299 + 11 * j) si) (300 + 11 * j) (nI (lr_n g 1))) 1 (nI (lr_n g 1 + 1))
set_option maxHeartbeats 4000000 in
set_option maxRecDepth 100000 in
theorem c_X4_deliver {g : Nat → Int32} {j : Nat} (dy ho si : Int32) (μ : pm_Mm) (hR : lr_Rel μ.1 1 g) (hB : lr_B g) (hj : j < lr_n g 289) (hd1 : g 1 = nI (lr_n g 1)) (hD : lr_n g 1 < 30) (hu : ∀ i d, i < lr_n g 289 → g (300 + 11 * i) = nI d → d < 30 → d ≠ lr_n g 1) : pm_CT mi_X4_deliver [.ref 26, .int (nI j), .int dy, .int ho, .int si] μ (fun v μ2 => v = none ∧ lr_fr μ μ2 ∧ lr_Rel μ2.1 1 (lr_gdel g j dy ho si)) pm_NX := by
  refine pm_CT_of (lo := [some (.ref 26), some (.int (nI j)), some (.int dy), some (.int ho), some (.int si)]) (by decide +kernel) rfl rfl (by intro v hv; simp at hv; rcases hv with rfl | rfl | rfl | rfl | rfl <;> rfl) (Nat.le_of_ble_eq_true rfl) rfl ?_
  obtain ⟨hm1, hm3, hm2, hm4, hm5, hm6⟩ := id hB
  refine pm_bl [(.aload_n 0, 1, 0, 0, 0), (.getfield 15, 3, 4, 1, 0)] (pc1 := 4) (lo1 := [some (.ref 26), some (.int (nI j)), some (.int dy), some (.int ho), some (.int si)]) (st1 := [.int (μ.1 26 1)]) (μ1 := μ) (vc := True) rfl (by decide +kernel) rfl trivial ?_
  rw [lr_rD hR, hd1]
  refine pm_bl [(.bipush 30, 2, 0, 0, 30)] (pc1 := 6) (lo1 := [some (.ref 26), some (.int (nI j)), some (.int dy), some (.int ho), some (.int si)]) (st1 := [.int 30, .int (nI (lr_n g 1))]) (μ1 := μ) (vc := True) rfl (by decide +kernel) rfl trivial ?_
  refine pm_icmp_lt (off := 4) 10 (by decide +kernel) (by decide) (fun (h6 : (nI (lr_n g 1)) < 30) => ?_) (fun (h9 : ¬ ((nI (lr_n g 1)) < 30)) => absurd (nI_lt hD (by decide)) h9)
  refine pm_bl [(.aload_n 0, 1, 0, 0, 0), (.getfield 31, 3, 4, 6, 0), (.iload_n 1, 1, 1, 0, 0), (.iconst 1, 1, 0, 0, 1), (.iastore, 1, 0, 0, 0), (.aload_n 0, 1, 0, 0, 0), (.getfield 34, 3, 4, 7, 0), (.iload_n 1, 1, 1, 0, 0), (.iload_n 2, 1, 2, 0, 0), (.iastore, 1, 0, 0, 0), (.aload_n 0, 1, 0, 0, 0), (.getfield 43, 3, 4, 10, 0), (.iload_n 1, 1, 1, 0, 0), (.iload_n 3, 1, 3, 0, 0), (.iastore, 1, 0, 0, 0), (.aload_n 0, 1, 0, 0, 0), (.getfield 46, 3, 4, 11, 0), (.iload_n 1, 1, 1, 0, 0), (.iload 4, 2, 4, 0, 0), (.iastore, 1, 0, 0, 0), (.aload_n 0, 1, 0, 0, 0), (.getfield 49, 3, 4, 12, 0), (.iload_n 1, 1, 1, 0, 0), (.aload_n 0, 1, 0, 0, 0), (.getfield 15, 3, 4, 1, 0)] (pc1 := 48) (lo1 := [some (.ref 26), some (.int (nI j)), some (.int dy), some (.int ho), some (.int si)]) (st1 := [.int ((pm_set (pm_set (pm_set (pm_set μ 31 ((nI j).toNatClampNeg) 1) 32 ((nI j).toNatClampNeg) dy) 35 ((nI j).toNatClampNeg) ho) 36 ((nI j).toNatClampNeg) si).1 26 1), .int (nI j), .ref 37]) (μ1 := pm_set (pm_set (pm_set (pm_set μ 31 ((nI j).toNatClampNeg) 1) 32 ((nI j).toNatClampNeg) dy) 35 ((nI j).toNatClampNeg) ho) 36 ((nI j).toNatClampNeg) si) (vc := vp_in (nI j) 30 ∧ vp_in (nI j) 30 ∧ vp_in (nI j) 30 ∧ vp_in (nI j) 30 ∧ True) rfl (by decide +kernel) rfl ⟨(vp_in_nI (by omega) (by omega)), (vp_in_nI (by omega) (by omega)), (vp_in_nI (by omega) (by omega)), (vp_in_nI (by omega) (by omega)), trivial⟩ ?_
  rw [show (pm_set (pm_set (pm_set (pm_set μ 31 ((nI j).toNatClampNeg) 1) 32 ((nI j).toNatClampNeg) dy) 35 ((nI j).toNatClampNeg) ho) 36 ((nI j).toNatClampNeg) si).1 26 1 = μ.1 26 1 from by simp [pm_set]]
  rw [lr_rD hR, hd1]
  try rw [nI_clamp (n := j) (by omega)]
  try rw [nI_clamp (n := j) (by omega)]
  try rw [nI_clamp (n := j) (by omega)]
  try rw [nI_clamp (n := j) (by omega)]
  refine pm_bl [(.iastore, 1, 0, 0, 0), (.aload_n 0, 1, 0, 0, 0), (.getfield 52, 3, 4, 13, 0), (.aload_n 0, 1, 0, 0, 0), (.getfield 15, 3, 4, 1, 0)] (pc1 := 57) (lo1 := [some (.ref 26), some (.int (nI j)), some (.int dy), some (.int ho), some (.int si)]) (st1 := [.int ((pm_set (pm_set (pm_set (pm_set (pm_set μ 31 j 1) 32 j dy) 35 j ho) 36 j si) 37 ((nI j).toNatClampNeg) (nI (lr_n g 1))).1 26 1), .ref 38]) (μ1 := pm_set (pm_set (pm_set (pm_set (pm_set μ 31 j 1) 32 j dy) 35 j ho) 36 j si) 37 ((nI j).toNatClampNeg) (nI (lr_n g 1))) (vc := vp_in (nI j) 30 ∧ True) rfl (by decide +kernel) rfl ⟨(vp_in_nI (by omega) (by omega)), trivial⟩ ?_
  rw [show (pm_set (pm_set (pm_set (pm_set (pm_set μ 31 j 1) 32 j dy) 35 j ho) 36 j si) 37 ((nI j).toNatClampNeg) (nI (lr_n g 1))).1 26 1 = μ.1 26 1 from by simp [pm_set]]
  rw [lr_rD hR, hd1]
  try rw [nI_clamp (n := j) (by omega)]
  refine pm_bl [(.iload_n 1, 1, 1, 0, 0), (.iastore, 1, 0, 0, 0), (.aload_n 0, 1, 0, 0, 0), (.dup, 1, 0, 0, 0), (.getfield 15, 3, 4, 1, 0)] (pc1 := 64) (lo1 := [some (.ref 26), some (.int (nI j)), some (.int dy), some (.int ho), some (.int si)]) (st1 := [.int ((pm_set (pm_set (pm_set (pm_set (pm_set (pm_set μ 31 j 1) 32 j dy) 35 j ho) 36 j si) 37 j (nI (lr_n g 1))) 38 ((nI (lr_n g 1)).toNatClampNeg) (nI j)).1 26 1), .ref 26]) (μ1 := pm_set (pm_set (pm_set (pm_set (pm_set (pm_set μ 31 j 1) 32 j dy) 35 j ho) 36 j si) 37 j (nI (lr_n g 1))) 38 ((nI (lr_n g 1)).toNatClampNeg) (nI j)) (vc := vp_in (nI (lr_n g 1)) 30 ∧ True) rfl (by decide +kernel) rfl ⟨(vp_in_nI (by omega) (by omega)), trivial⟩ ?_
  rw [show (pm_set (pm_set (pm_set (pm_set (pm_set (pm_set μ 31 j 1) 32 j dy) 35 j ho) 36 j si) 37 j (nI (lr_n g 1))) 38 ((nI (lr_n g 1)).toNatClampNeg) (nI j)).1 26 1 = μ.1 26 1 from by simp [pm_set]]
  rw [lr_rD hR, hd1]
  try rw [nI_clamp (n := (lr_n g 1)) (by omega)]
  refine pm_bl [(.iconst 1, 1, 0, 0, 1), (.iadd, 1, 0, 0, 0), (.putfield 15, 3, 4, 1, 0)] (pc1 := 69) (lo1 := [some (.ref 26), some (.int (nI j)), some (.int dy), some (.int ho), some (.int si)]) (st1 := []) (μ1 := pm_set (pm_set (pm_set (pm_set (pm_set (pm_set (pm_set μ 31 j 1) 32 j dy) 35 j ho) 36 j si) 37 j (nI (lr_n g 1))) 38 (lr_n g 1) (nI j)) 26 1 ((nI (lr_n g 1)) + 1)) (vc := True) rfl (by decide +kernel) rfl trivial ?_
  exact pm_vret rfl (by decide) (by decide) (by decide +kernel) (by
    refine ⟨rfl, lr_fr.set (lr_fr.set (lr_fr.set (lr_fr.set (lr_fr.set (lr_fr.set (lr_fr.set lr_fr.rf (by omega) (by omega)) (by omega) (by omega)) (by omega) (by omega)) (by omega) (by omega)) (by omega) (by omega)) (by omega) (by omega)) (by omega) (by omega), ?_⟩
    rw [nI_1]
    have r1 := lr_put_lst hR hB hj 1
    have b1 := hB.upd (k := 294 + 11 * j) (v := 1) (by omega)
    have r2 := lr_put_len r1 b1 (by rw [lr_n_upd (by omega)]; exact hj) dy
    have b2 := b1.upd (k := 295 + 11 * j) (v := dy) (by omega)
    have r3 := lr_put_lho r2 b2 (by rw [lr_n_upd (by omega), lr_n_upd (by omega)]; exact hj) ho
    have b3 := b2.upd (k := 298 + 11 * j) (v := ho) (by omega)
    have r4 := lr_put_lsi r3 b3 (by rw [lr_n_upd (by omega), lr_n_upd (by omega), lr_n_upd (by omega)]; exact hj) si
    have b4 := b3.upd (k := 299 + 11 * j) (v := si) (by omega)
    have e1 : lr_n (upd (upd (upd (upd g (294 + 11 * j) 1) (295 + 11 * j) dy) (298 + 11 * j) ho) (299 + 11 * j) si) 1 = lr_n g 1 := by rw [lr_n_upd (by omega), lr_n_upd (by omega), lr_n_upd (by omega), lr_n_upd (by omega)]
    have e2 : lr_n (upd (upd (upd (upd g (294 + 11 * j) 1) (295 + 11 * j) dy) (298 + 11 * j) ho) (299 + 11 * j) si) 289 = lr_n g 289 := by rw [lr_n_upd (by omega), lr_n_upd (by omega), lr_n_upd (by omega), lr_n_upd (by omega)]
    have r5 := lr_put_del r4 b4 (by rw [e2]; exact hj) (by rw [e1]; exact hD) (by
      intro i d hi hd h9
      rw [e2] at hi
      rw [e1]
      rw [upd_ne (by omega), upd_ne (by omega), upd_ne (by omega), upd_ne (by omega)] at hd
      exact hu i d hi hd h9)
    rw [e1] at r5
    exact r5)
set_option maxHeartbeats 4000000 in
set_option maxRecDepth 100000 in
theorem c_X6_setAllowed {g : Nat → Int32} {p : Nat} (q z : Int32) (μ : pm_Mm) (hR : lr_Rel μ.1 1 g) (hB : lr_B g) (h35 : g 35 = nI (lr_n g 35)) (hp : p < lr_n g 35) : pm_CT mi_X6_setAllowed [.ref 5, .int (nI p), .int q, .int z] μ (fun v μ2 => v = none ∧ lr_fr μ μ2 ∧ lr_Rel μ2.1 1 (upd g (39 + 4 * p) (if z = 0 then g (39 + 4 * p) &&& ((1 <<< (q &&& 31)) ^^^ (-1)) else g (39 + 4 * p) ||| (1 <<< (q &&& 31))))) pm_NX := by
  refine pm_CT_of (lo := [some (.ref 5), some (.int (nI p)), some (.int q), some (.int z)]) (by decide +kernel) rfl rfl (by intro v hv; simp at hv; rcases hv with rfl | rfl | rfl | rfl <;> rfl) (Nat.le_of_ble_eq_true rfl) rfl ?_
  obtain ⟨hm1, hm3, hm2, hm4, hm5, hm6⟩ := id hB
  have hbe : lr_be (nI p) (nI (lr_n g 35)) = true := by rw [lr_be_nI (by omega) (by omega)]; exact decide_eq_true hp
  refine pm_bl [(.iload_n 1, 1, 1, 0, 0), (.aload_n 0, 1, 0, 0, 0), (.getfield 9, 3, 6, 0, 0)] (pc1 := 5) (lo1 := [some (.ref 5), some (.int (nI p)), some (.int q), some (.int z)]) (st1 := [.int (μ.1 5 0), .int (nI p)]) (μ1 := μ) (vc := True) rfl (by decide +kernel) rfl trivial ?_
  rw [lr_rNp hR, h35]
  refine pm_callSN2 mi_X9_isBelow (ix := 32) (host := RX9) (kc2 := 0) (ks2 := 0) (As := [.int (nI p), .int (nI (lr_n g 35))]) (rest := []) (c_X9_isBelow (nI p) (nI (lr_n g 35)) μ) cal_X9_isBelow (by decide +kernel) (by decide +kernel) (by decide +kernel) rfl rfl (Nat.le_of_ble_eq_true rfl) (by decide) (by decide) ?_
  rintro _ _ ⟨rfl, h9⟩; rw [h9]; clear h9
  rw [hbe]
  show pm_V _ _ _ _ 8 _ [.int 1] _
  refine pm_if_ne (off := 4) 12 (by decide +kernel) (by decide) (fun _ => ?_) (fun h9 => absurd h9 (by decide))
  refine pm_bl [(.iload_n 3, 1, 3, 0, 0)] (pc1 := 13) (lo1 := [some (.ref 5), some (.int (nI p)), some (.int q), some (.int z)]) (st1 := [.int z]) (μ1 := μ) (vc := True) rfl (by decide +kernel) rfl trivial ?_
  refine pm_if_eq (off := 18) 31 (by decide +kernel) (by decide) (fun (h13 : z = 0) => ?_) (fun (h13 : ¬ (z = 0)) => ?_)
  · refine pm_bl [(.aload_n 0, 1, 0, 0, 0), (.getfield 25, 3, 6, 4, 0), (.iload_n 1, 1, 1, 0, 0), (.dup2, 1, 0, 0, 0), (.iaload, 1, 0, 0, 0)] (pc1 := 38) (lo1 := [some (.ref 5), some (.int (nI p)), some (.int q), some (.int z)]) (st1 := [.int (μ.1 9 (nI p).toNatClampNeg), .int (nI p), .ref 9]) (μ1 := μ) (vc := vp_in (nI p) 20 ∧ True) rfl (by decide +kernel) rfl ⟨(vp_in_nI (by omega) (by omega)), trivial⟩ ?_
    first | rw [nI_clamp (n := p) (by omega), lr_rpal hR (i := p) hp] | rw [lr_rpal hR (i := p) hp]
    refine pm_bl [(.iconst 1, 1, 0, 0, 1), (.iload_n 2, 1, 2, 0, 0), (.ishl, 1, 0, 0, 0), (.iconst (-1), 1, 0, 0, (-1)), (.ixor, 1, 0, 0, 0), (.iand, 1, 0, 0, 0), (.iastore, 1, 0, 0, 0)] (pc1 := 45) (lo1 := [some (.ref 5), some (.int (nI p)), some (.int q), some (.int z)]) (st1 := []) (μ1 := pm_set μ 9 ((nI p).toNatClampNeg) ((g (39 + 4 * p)) &&& ((1 <<< (q &&& 31)) ^^^ (-1)))) (vc := vp_in (nI p) 20 ∧ True) rfl (by decide +kernel) rfl ⟨(vp_in_nI (by omega) (by omega)), trivial⟩ ?_
    try rw [nI_clamp (n := p) (by omega)]
    exact pm_vret rfl (by decide) (by decide) (by decide +kernel) (⟨rfl, lr_fr.set lr_fr.rf (by omega) (by omega), by (first | rw [if_pos h13] | rw [if_neg h13]); exact lr_put_pal hR hB hp _⟩)
  · refine pm_bl [(.aload_n 0, 1, 0, 0, 0), (.getfield 25, 3, 6, 4, 0), (.iload_n 1, 1, 1, 0, 0), (.dup2, 1, 0, 0, 0), (.iaload, 1, 0, 0, 0)] (pc1 := 23) (lo1 := [some (.ref 5), some (.int (nI p)), some (.int q), some (.int z)]) (st1 := [.int (μ.1 9 (nI p).toNatClampNeg), .int (nI p), .ref 9]) (μ1 := μ) (vc := vp_in (nI p) 20 ∧ True) rfl (by decide +kernel) rfl ⟨(vp_in_nI (by omega) (by omega)), trivial⟩ ?_
    first | rw [nI_clamp (n := p) (by omega), lr_rpal hR (i := p) hp] | rw [lr_rpal hR (i := p) hp]
    refine pm_bl [(.iconst 1, 1, 0, 0, 1), (.iload_n 2, 1, 2, 0, 0), (.ishl, 1, 0, 0, 0), (.ior, 1, 0, 0, 0), (.iastore, 1, 0, 0, 0), (.goto 17, 3, 45, 0, 0)] (pc1 := 45) (lo1 := [some (.ref 5), some (.int (nI p)), some (.int q), some (.int z)]) (st1 := []) (μ1 := pm_set μ 9 ((nI p).toNatClampNeg) ((g (39 + 4 * p)) ||| (1 <<< (q &&& 31)))) (vc := vp_in (nI p) 20 ∧ True) rfl (by decide +kernel) rfl ⟨(vp_in_nI (by omega) (by omega)), trivial⟩ ?_
    try rw [nI_clamp (n := p) (by omega)]
    exact pm_vret rfl (by decide) (by decide) (by decide +kernel) (⟨rfl, lr_fr.set lr_fr.rf (by omega) (by omega), by (first | rw [if_pos h13] | rw [if_neg h13]); exact lr_put_pal hR hB hp _⟩)
/-- the absences moved down by one -/
def lr_gsha (g : Nat → Int32) : Nat → Int32 := fun j => if 229 ≤ j ∧ j < 286 then g (j + 3) else if j = 228 then nI 19 else g j
theorem lr_gsha_off {g : Nat → Int32} {j : Nat} (h : j < 228 ∨ 286 ≤ j) : lr_gsha g j = g j := by
  unfold lr_gsha
  rw [if_neg (by omega), if_neg (by omega)]
set_option maxHeartbeats 4000000 in
set_option maxRecDepth 100000 in
theorem c_X0_dropOldest {g : Nat → Int32} (μ : pm_Mm) (hR : lr_Rel μ.1 1 g) (hB : lr_B g) (hA : g 228 = nI 20) : pm_CT mi_X0_dropOldest [.ref 22] μ (fun v μ2 => v = none ∧ lr_fr μ μ2 ∧ lr_Rel μ2.1 1 (lr_gsha g)) pm_NX := by
  refine pm_CT_of (lo := [some (.ref 22)]) (by decide +kernel) rfl rfl (by intro v hv; simp at hv; rcases hv with rfl <;> rfl) (Nat.le_of_ble_eq_true rfl) rfl ?_
  obtain ⟨hm1, hm3, hm2, hm4, hm5, hm6⟩ := id hB
  refine pm_bl [(.aload_n 0, 1, 0, 0, 0), (.getfield 15, 3, 0, 1, 0), (.iconst 0, 1, 0, 0, 0)] (pc1 := 5) (lo1 := [some (.ref 22)]) (st1 := [.int 0, .ref 23]) (μ1 := μ) (vc := True) rfl (by decide +kernel) rfl trivial ?_
  refine pm_callSN2 mi_X9_closeGap (ix := 32) (host := RX9) (kc2 := 0) (ks2 := 0) (As := [.ref 23, .int 0]) (rest := []) (c_X9_closeGap (a := 23) (n := 20) (k := 0) μ rfl (by decide) (by decide)) cal_X9_closeGap (by decide +kernel) (by decide +kernel) (by decide +kernel) rfl rfl (Nat.le_of_ble_eq_true rfl) (by decide) (by decide) ?_
  rintro _ μ1 ⟨rfl, e1⟩
  show pm_V _ _ _ _ 8 _ [] _
  refine pm_bl [(.aload_n 0, 1, 0, 0, 0), (.getfield 19, 3, 0, 2, 0), (.iconst 0, 1, 0, 0, 0)] (pc1 := 13) (lo1 := [some (.ref 22)]) (st1 := [.int 0, .ref 24]) (μ1 := μ1) (vc := True) rfl (by decide +kernel) rfl trivial ?_
  refine pm_callSN2 mi_X9_closeGap (ix := 32) (host := RX9) (kc2 := 0) (ks2 := 0) (As := [.ref 24, .int 0]) (rest := []) (c_X9_closeGap (a := 24) (n := 20) (k := 0) μ1 rfl (by decide) (by decide)) cal_X9_closeGap (by decide +kernel) (by decide +kernel) (by decide +kernel) rfl rfl (Nat.le_of_ble_eq_true rfl) (by decide) (by decide) ?_
  rintro _ μ2 ⟨rfl, e2⟩
  show pm_V _ _ _ _ 16 _ [] _
  refine pm_bl [(.aload_n 0, 1, 0, 0, 0), (.getfield 22, 3, 0, 3, 0), (.iconst 0, 1, 0, 0, 0)] (pc1 := 21) (lo1 := [some (.ref 22)]) (st1 := [.int 0, .ref 25]) (μ1 := μ2) (vc := True) rfl (by decide +kernel) rfl trivial ?_
  refine pm_callSN2 mi_X9_closeGap (ix := 32) (host := RX9) (kc2 := 0) (ks2 := 0) (As := [.ref 25, .int 0]) (rest := []) (c_X9_closeGap (a := 25) (n := 20) (k := 0) μ2 rfl (by decide) (by decide)) cal_X9_closeGap (by decide +kernel) (by decide +kernel) (by decide +kernel) rfl rfl (Nat.le_of_ble_eq_true rfl) (by decide) (by decide) ?_
  rintro _ μ3 ⟨rfl, e3⟩
  show pm_V _ _ _ _ 24 _ [] _
  refine pm_bl [(.aload_n 0, 1, 0, 0, 0), (.dup, 1, 0, 0, 0), (.getfield 9, 3, 0, 0, 0)] (pc1 := 29) (lo1 := [some (.ref 22)]) (st1 := [.int (μ3.1 22 0), .ref 22]) (μ1 := μ3) (vc := True) rfl (by decide +kernel) rfl trivial ?_
  rw [show μ3.1 22 0 = nI 20 from by rw [e3, pm_row_off (by decide), e2, pm_row_off (by decide), e1, pm_row_off (by decide), lr_rNa hR, hA]]
  refine pm_bl [(.iconst 1, 1, 0, 0, 1), (.isub, 1, 0, 0, 0), (.putfield 9, 3, 0, 0, 0)] (pc1 := 34) (lo1 := [some (.ref 22)]) (st1 := []) (μ1 := pm_set μ3 22 0 ((nI 20) - 1)) (vc := True) rfl (by decide +kernel) rfl trivial ?_
  exact pm_vret rfl (by decide) (by decide) (by decide +kernel) (by
    subst e1; subst e2; subst e3
    refine ⟨rfl, lr_fr.set (lr_fr.row (lr_fr.row (lr_fr.row lr_fr.rf (by omega) (by omega)) (by omega) (by omega)) (by omega) (by omega)) (by omega) (by omega), ?_⟩
    have off : ∀ k, (k < 22 ∨ 25 < k) → (pm_set (pm_row (pm_row (pm_row μ 23 (va_cpy (μ.1 23) (μ.1 23) (0 + 1) 0 (20 - 0 - 1))) 24 (va_cpy ((pm_row μ 23 (va_cpy (μ.1 23) (μ.1 23) (0 + 1) 0 (20 - 0 - 1))).1 24) ((pm_row μ 23 (va_cpy (μ.1 23) (μ.1 23) (0 + 1) 0 (20 - 0 - 1))).1 24) (0 + 1) 0 (20 - 0 - 1))) 25 (va_cpy ((pm_row (pm_row μ 23 (va_cpy (μ.1 23) (μ.1 23) (0 + 1) 0 (20 - 0 - 1))) 24 (va_cpy ((pm_row μ 23 (va_cpy (μ.1 23) (μ.1 23) (0 + 1) 0 (20 - 0 - 1))).1 24) ((pm_row μ 23 (va_cpy (μ.1 23) (μ.1 23) (0 + 1) 0 (20 - 0 - 1))).1 24) (0 + 1) 0 (20 - 0 - 1))).1 25) ((pm_row (pm_row μ 23 (va_cpy (μ.1 23) (μ.1 23) (0 + 1) 0 (20 - 0 - 1))) 24 (va_cpy ((pm_row μ 23 (va_cpy (μ.1 23) (μ.1 23) (0 + 1) 0 (20 - 0 - 1))).1 24) ((pm_row μ 23 (va_cpy (μ.1 23) (μ.1 23) (0 + 1) 0 (20 - 0 - 1))).1 24) (0 + 1) 0 (20 - 0 - 1))).1 25) (0 + 1) 0 (20 - 0 - 1))) 22 0 (nI 20 - 1)).1 k = μ.1 k := fun k hk => by rw [pm_set_off (by omega), pm_row_off (by omega), pm_row_off (by omega), pm_row_off (by omega)]
    refine ⟨by rw [off _ (by omega), lr_gsha_off (by omega)]; exact hR.1, lr_Rh.st hR.2.1 hm1 (fun k h1 h2 => off _ (by omega)) (fun j h1 h2 => lr_gsha_off (by omega)), lr_Rp.st hR.2.2.1 hm3 (fun k h1 h2 => off _ (by omega)) (fun j h1 h2 => lr_gsha_off (by omega)), lr_Rw.st hR.2.2.2.1 hm2 (fun k h1 h2 => off _ (by omega)) (fun j h1 h2 => lr_gsha_off (by omega)), lr_Rr.st hR.2.2.2.2.1 hm4 (fun k h1 h2 => off _ (by omega)) (fun j h1 h2 => lr_gsha_off (by omega)), ?_, lr_Rl.st hR.2.2.2.2.2.2 hm6 (fun k h1 h2 => off _ (by omega)) (lr_gsha_off (by omega)) (fun j h1 h2 => lr_gsha_off (by omega))⟩
    have n20 : lr_n g 228 = 20 := by unfold lr_n; rw [hA]; decide
    have n19 : lr_n (lr_gsha g) 228 = 19 := by unfold lr_n; rw [show lr_gsha g 228 = nI 19 from by unfold lr_gsha; rw [if_neg (by omega), if_pos rfl]]; decide
    obtain ⟨h1, h2⟩ := hR.2.2.2.2.2.1
    refine ⟨by simp only [Nat.reduceAdd]; rw [pm_set_hit, show lr_gsha g 228 = nI 19 from by unfold lr_gsha; rw [if_neg (by omega), if_pos rfl]]; decide, fun i hi => ?_⟩
    rw [n19] at hi
    obtain ⟨q1, q2, q3⟩ := h2 (i + 1) (by omega)
    simp only [Nat.reduceAdd] at q1 q2 q3 ⊢
    refine ⟨?_, ?_, ?_⟩
    · rw [pm_set_miss (by omega), pm_row_off (by decide), pm_row_off (by decide), pm_row_at]
      rw [show lr_gsha g (229 + 3 * i) = g (229 + 3 * (i + 1)) from by unfold lr_gsha; rw [if_pos (by omega)]; congr 1, ← q1]
      unfold va_cpy; rw [if_pos (by omega), show 0 + 1 + (i - 0) = i + 1 from by omega]
    · rw [pm_set_miss (by omega), pm_row_off (by decide), pm_row_at, pm_row_off (by decide)]
      rw [show lr_gsha g (230 + 3 * i) = g (230 + 3 * (i + 1)) from by unfold lr_gsha; rw [if_pos (by omega)]; congr 1, ← q2]
      unfold va_cpy; rw [if_pos (by omega), show 0 + 1 + (i - 0) = i + 1 from by omega]
    · rw [pm_set_miss (by omega), pm_row_at, pm_row_off (by decide), pm_row_off (by decide)]
      rw [show lr_gsha g (231 + 3 * i) = g (231 + 3 * (i + 1)) from by unfold lr_gsha; rw [if_pos (by omega)]; congr 1, ← q3]
      unfold va_cpy; rw [if_pos (by omega), show 0 + 1 + (i - 0) = i + 1 from by omega])
/-- one more absence; the oldest goes if 20 are kept -/
def lr_gabs (g : Nat → Int32) (pe fi la : Int32) : Nat → Int32 := upd (upd (upd (upd g (229 + 3 * lr_n g 228) pe) (230 + 3 * lr_n g 228) fi) (231 + 3 * lr_n g 228) la) 228 (nI (lr_n g 228 + 1))
def lr_gabs2 (g : Nat → Int32) (pe fi la : Int32) : Nat → Int32 := if lr_n g 228 = 20 then lr_gabs (lr_gsha g) pe fi la else lr_gabs g pe fi la
set_option maxHeartbeats 4000000 in
set_option maxRecDepth 100000 in
theorem lr_rel_abs {μ : pm_Mm} {g : Nat → Int32} (pe fi la : Int32) (hR : lr_Rel μ.1 1 g) (hB : lr_B g) (hlt : lr_n g 228 < 20) : lr_Rel (pm_set (pm_set (pm_set (pm_set μ 23 (lr_n g 228) pe) 24 (lr_n g 228) fi) 25 (lr_n g 228) la) 22 0 (nI (lr_n g 228 + 1))).1 1 (lr_gabs g pe fi la) := by
  obtain ⟨hm1, hm3, hm2, hm4, hm5, hm6⟩ := hB
  unfold lr_gabs
  refine ⟨by rw [pm_set_off, pm_set_off, pm_set_off, pm_set_off, upd_ne, upd_ne, upd_ne, upd_ne]; exact hR.1; all_goals omega, lr_Rh.st hR.2.1 hm1 (fun k h1 h2 => by rw [pm_set_off, pm_set_off, pm_set_off, pm_set_off] <;> omega) (fun j h1 h2 => by rw [upd_ne, upd_ne, upd_ne, upd_ne] <;> omega), lr_Rp.st hR.2.2.1 hm3 (fun k h1 h2 => by rw [pm_set_off, pm_set_off, pm_set_off, pm_set_off] <;> omega) (fun j h1 h2 => by rw [upd_ne, upd_ne, upd_ne, upd_ne] <;> omega), lr_Rw.st hR.2.2.2.1 hm2 (fun k h1 h2 => by rw [pm_set_off, pm_set_off, pm_set_off, pm_set_off] <;> omega) (fun j h1 h2 => by rw [upd_ne, upd_ne, upd_ne, upd_ne] <;> omega), lr_Rr.st hR.2.2.2.2.1 hm4 (fun k h1 h2 => by rw [pm_set_off, pm_set_off, pm_set_off, pm_set_off] <;> omega) (fun j h1 h2 => by rw [upd_ne, upd_ne, upd_ne, upd_ne] <;> omega), ?_, lr_Rl.st hR.2.2.2.2.2.2 hm6 (fun k h1 h2 => by rw [pm_set_off, pm_set_off, pm_set_off, pm_set_off] <;> omega) (by rw [upd_ne, upd_ne, upd_ne, upd_ne] <;> omega) (fun j h1 h2 => by rw [upd_ne, upd_ne, upd_ne, upd_ne] <;> omega)⟩
  obtain ⟨h1, h2⟩ := hR.2.2.2.2.2.1
  refine ⟨by simp only [Nat.reduceAdd]; rw [pm_set_hit, upd_eq], fun i hi => ?_⟩
  rw [lr_n_at (by omega)] at hi
  simp only [Nat.reduceAdd]
  rcases Nat.lt_or_ge i (lr_n g 228) with q | q
  · obtain ⟨q0, q1, q2⟩ := h2 i q
    exact ⟨by rw [pm_set_miss, pm_set_miss, pm_set_miss, pm_set_miss, upd_ne, upd_ne, upd_ne, upd_ne]; exact q0; all_goals (first | exact Or.inl (by decide) | exact Or.inr (by omega) | omega), by rw [pm_set_miss, pm_set_miss, pm_set_miss, pm_set_miss, upd_ne, upd_ne, upd_ne, upd_ne]; exact q1; all_goals (first | exact Or.inl (by decide) | exact Or.inr (by omega) | omega), by rw [pm_set_miss, pm_set_miss, pm_set_miss, pm_set_miss, upd_ne, upd_ne, upd_ne, upd_ne]; exact q2; all_goals (first | exact Or.inl (by decide) | exact Or.inr (by omega) | omega)⟩
  · have e : i = lr_n g 228 := by omega
    subst e
    exact ⟨by rw [pm_set_miss, pm_set_miss, pm_set_miss, pm_set_hit, upd_ne, upd_ne, upd_ne, upd_eq]; all_goals (first | exact Or.inl (by decide) | exact Or.inr (by omega) | omega), by rw [pm_set_miss, pm_set_miss, pm_set_hit, upd_ne, upd_ne, upd_eq]; all_goals (first | exact Or.inl (by decide) | exact Or.inr (by omega) | omega), by rw [pm_set_miss, pm_set_hit, upd_ne, upd_eq]; all_goals (first | exact Or.inl (by decide) | exact Or.inr (by omega) | omega)⟩
set_option maxHeartbeats 4000000 in
set_option maxRecDepth 100000 in
theorem l_X0_add {g : Nat → Int32} (pe fi la : Int32) (μ0 μ : pm_Mm) (hfr : lr_fr μ0 μ) (hR : lr_Rel μ.1 1 g) (hB : lr_B g) (hg : g 228 = nI (lr_n g 228)) (hlt : lr_n g 228 < 20) : pm_V mi_X0_add ((fun v μ2 => v = none ∧ lr_fr μ0 μ2 ∧ lr_Rel μ2.1 1 (lr_gabs g pe fi la)), pm_NX, fun _ _ _ => True) 0 0 13 [some (.ref 22), some (.int pe), some (.int fi), some (.int la)] [] μ := by
  obtain ⟨hm1, hm3, hm2, hm4, hm5, hm6⟩ := id hB
  refine pm_bl [(.aload_n 0, 1, 0, 0, 0), (.getfield 15, 3, 0, 1, 0), (.aload_n 0, 1, 0, 0, 0), (.getfield 9, 3, 0, 0, 0)] (pc1 := 21) (lo1 := [some (.ref 22), some (.int pe), some (.int fi), some (.int la)]) (st1 := [.int (μ.1 22 0), .ref 23]) (μ1 := μ) (vc := True) rfl (by decide +kernel) rfl trivial ?_
  rw [lr_rNa hR, hg]
  refine pm_bl [(.iload_n 1, 1, 1, 0, 0), (.iastore, 1, 0, 0, 0), (.aload_n 0, 1, 0, 0, 0), (.getfield 19, 3, 0, 2, 0), (.aload_n 0, 1, 0, 0, 0), (.getfield 9, 3, 0, 0, 0)] (pc1 := 31) (lo1 := [some (.ref 22), some (.int pe), some (.int fi), some (.int la)]) (st1 := [.int ((pm_set μ 23 ((nI (lr_n g 228)).toNatClampNeg) pe).1 22 0), .ref 24]) (μ1 := pm_set μ 23 ((nI (lr_n g 228)).toNatClampNeg) pe) (vc := vp_in (nI (lr_n g 228)) 20 ∧ True) rfl (by decide +kernel) rfl ⟨(vp_in_nI (by omega) (by omega)), trivial⟩ ?_
  rw [show (pm_set μ 23 ((nI (lr_n g 228)).toNatClampNeg) pe).1 22 0 = μ.1 22 0 from by simp [pm_set]]
  rw [lr_rNa hR, hg]
  try rw [nI_clamp (n := (lr_n g 228)) (by omega)]
  refine pm_bl [(.iload_n 2, 1, 2, 0, 0), (.iastore, 1, 0, 0, 0), (.aload_n 0, 1, 0, 0, 0), (.getfield 22, 3, 0, 3, 0), (.aload_n 0, 1, 0, 0, 0), (.getfield 9, 3, 0, 0, 0)] (pc1 := 41) (lo1 := [some (.ref 22), some (.int pe), some (.int fi), some (.int la)]) (st1 := [.int ((pm_set (pm_set μ 23 (lr_n g 228) pe) 24 ((nI (lr_n g 228)).toNatClampNeg) fi).1 22 0), .ref 25]) (μ1 := pm_set (pm_set μ 23 (lr_n g 228) pe) 24 ((nI (lr_n g 228)).toNatClampNeg) fi) (vc := vp_in (nI (lr_n g 228)) 20 ∧ True) rfl (by decide +kernel) rfl ⟨(vp_in_nI (by omega) (by omega)), trivial⟩ ?_
  rw [show (pm_set (pm_set μ 23 (lr_n g 228) pe) 24 ((nI (lr_n g 228)).toNatClampNeg) fi).1 22 0 = μ.1 22 0 from by simp [pm_set]]
  rw [lr_rNa hR, hg]
  try rw [nI_clamp (n := (lr_n g 228)) (by omega)]
  refine pm_bl [(.iload_n 3, 1, 3, 0, 0), (.iastore, 1, 0, 0, 0), (.aload_n 0, 1, 0, 0, 0), (.dup, 1, 0, 0, 0), (.getfield 9, 3, 0, 0, 0)] (pc1 := 48) (lo1 := [some (.ref 22), some (.int pe), some (.int fi), some (.int la)]) (st1 := [.int ((pm_set (pm_set (pm_set μ 23 (lr_n g 228) pe) 24 (lr_n g 228) fi) 25 ((nI (lr_n g 228)).toNatClampNeg) la).1 22 0), .ref 22]) (μ1 := pm_set (pm_set (pm_set μ 23 (lr_n g 228) pe) 24 (lr_n g 228) fi) 25 ((nI (lr_n g 228)).toNatClampNeg) la) (vc := vp_in (nI (lr_n g 228)) 20 ∧ True) rfl (by decide +kernel) rfl ⟨(vp_in_nI (by omega) (by omega)), trivial⟩ ?_
  rw [show (pm_set (pm_set (pm_set μ 23 (lr_n g 228) pe) 24 (lr_n g 228) fi) 25 ((nI (lr_n g 228)).toNatClampNeg) la).1 22 0 = μ.1 22 0 from by simp [pm_set]]
  rw [lr_rNa hR, hg]
  try rw [nI_clamp (n := (lr_n g 228)) (by omega)]
  refine pm_bl [(.iconst 1, 1, 0, 0, 1), (.iadd, 1, 0, 0, 0), (.putfield 9, 3, 0, 0, 0)] (pc1 := 53) (lo1 := [some (.ref 22), some (.int pe), some (.int fi), some (.int la)]) (st1 := []) (μ1 := pm_set (pm_set (pm_set (pm_set μ 23 (lr_n g 228) pe) 24 (lr_n g 228) fi) 25 (lr_n g 228) la) 22 0 ((nI (lr_n g 228)) + 1)) (vc := True) rfl (by decide +kernel) rfl trivial ?_
  exact pm_vret rfl (by decide) (by decide) (by decide +kernel) (⟨rfl, lr_fr.set (lr_fr.set (lr_fr.set (lr_fr.set hfr (by omega) (by omega)) (by omega) (by omega)) (by omega) (by omega)) (by omega) (by omega), by rw [nI_1]; exact lr_rel_abs pe fi la hR hB hlt⟩)
set_option maxHeartbeats 4000000 in
set_option maxRecDepth 100000 in
theorem c_X0_add {g : Nat → Int32} (pe fi la : Int32) (μ : pm_Mm) (hR : lr_Rel μ.1 1 g) (hB : lr_B g) (hg : g 228 = nI (lr_n g 228)) : pm_CT mi_X0_add [.ref 22, .int pe, .int fi, .int la] μ (fun v μ2 => v = none ∧ lr_fr μ μ2 ∧ lr_Rel μ2.1 1 (lr_gabs2 g pe fi la)) pm_NX := by
  refine pm_CT_of (lo := [some (.ref 22), some (.int pe), some (.int fi), some (.int la)]) (by decide +kernel) rfl rfl (by intro v hv; simp at hv; rcases hv with rfl | rfl | rfl | rfl <;> rfl) (Nat.le_of_ble_eq_true rfl) rfl ?_
  obtain ⟨hm1, hm3, hm2, hm4, hm5, hm6⟩ := id hB
  refine pm_bl [(.aload_n 0, 1, 0, 0, 0), (.getfield 9, 3, 0, 0, 0)] (pc1 := 4) (lo1 := [some (.ref 22), some (.int pe), some (.int fi), some (.int la)]) (st1 := [.int (μ.1 22 0)]) (μ1 := μ) (vc := True) rfl (by decide +kernel) rfl trivial ?_
  rw [lr_rNa hR, hg]
  refine pm_bl [(.bipush 20, 2, 0, 0, 20)] (pc1 := 6) (lo1 := [some (.ref 22), some (.int pe), some (.int fi), some (.int la)]) (st1 := [.int 20, .int (nI (lr_n g 228))]) (μ1 := μ) (vc := True) rfl (by decide +kernel) rfl trivial ?_
  refine pm_icmp_lt (off := 7) 13 (by decide +kernel) (by decide) (fun (h6 : (nI (lr_n g 228)) < 20) => ?_) (fun (h6 : ¬ ((nI (lr_n g 228)) < 20)) => ?_)
  · have hlt : lr_n g 228 < 20 := by
      rcases Nat.lt_or_ge (lr_n g 228) 20 with q | q
      · exact q
      · exact absurd h6 (nI_nlt (b := 20) q (by omega))
    rw [show lr_gabs2 g pe fi la = lr_gabs g pe fi la from if_neg (by omega)]
    exact l_X0_add pe fi la μ μ lr_fr.rf hR hB hg hlt
  · refine pm_bl [(.aload_n 0, 1, 0, 0, 0)] (pc1 := 10) (lo1 := [some (.ref 22), some (.int pe), some (.int fi), some (.int la)]) (st1 := [.ref 22]) (μ1 := μ) (vc := True) rfl (by decide +kernel) rfl trivial ?_
    have hA : lr_n g 228 = 20 := by
        rcases Nat.lt_or_ge (lr_n g 228) 20 with q | q
        · exact absurd (nI_lt (b := 20) q (by decide)) h6
        · omega
    refine pm_callV2 mi_X0_dropOldest (ix := 29) (b := 22) (ci := 0) (kc2 := 0) (ks2 := 0) (As := []) (rest := []) (c_X0_dropOldest μ hR hB (by rw [hg, hA])) cal_X0_dropOldest lk0_29 (by decide +kernel) rfl (by decide +kernel) rfl rfl rfl rfl (Nat.le_of_ble_eq_true rfl) (by decide) (by decide) (fun _ _ h9 => h9.elim) ?_
    rintro _ μ1 ⟨rfl, hfr1, hR1⟩
    have n19 : lr_n (lr_gsha g) 228 = 19 := by unfold lr_n; rw [show lr_gsha g 228 = nI 19 from by unfold lr_gsha; rw [if_neg (by omega), if_pos rfl]]; decide
    show pm_V _ _ _ _ 13 _ [] _
    rw [show lr_gabs2 g pe fi la = lr_gabs (lr_gsha g) pe fi la from if_pos hA]
    refine l_X0_add pe fi la μ μ1 hfr1 hR1 ?_ (by rw [n19]; show lr_gsha g 228 = nI 19; unfold lr_gsha; rw [if_neg (by omega), if_pos rfl]) (by omega)
    have off : ∀ k, (k < 228 ∨ 286 ≤ k) → lr_n (lr_gsha g) k = lr_n g k := fun k hk => by unfold lr_n; rw [lr_gsha_off hk]
    exact ⟨by rw [off 2 (by omega)]; exact hm1, by rw [off 35 (by omega)]; exact hm3, by rw [off 116 (by omega)]; exact hm2, by rw [off 167 (by omega)]; exact hm4, by omega, by rw [off 289 (by omega)]; exact hm6⟩
