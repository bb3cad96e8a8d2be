/-! the ring of offices -/
theorem lr_min8 {c : Nat} (hc : c ≤ 8) : (if (8 : Int32) < nI c + 1 then (8 : Int32) else nI c + 1) = nI (min (c + 1) 8) := by
  rw [nI_1]
  rcases Nat.lt_or_ge c 8 with h | h
  · rw [if_neg (show ¬ (8 : Int32) < nI (c + 1) from nI_nlt (a := 8) (by omega) (by decide)), Nat.min_eq_left (by omega)]
  · rw [if_pos (show (8 : Int32) < nI (c + 1) from nI_lt (a := 8) (by omega) (by omega)), Nat.min_eq_right (by omega)]
    rfl
set_option maxHeartbeats 4000000 in
set_option maxRecDepth 100000 in
theorem c_X2_keep_0 {g : Nat → Int32} {c : Nat} (μ : pm_Mm) (hR : lr_Rel μ.1 1 g) (hB : lr_B g) (hn : μ.1 45 1 = nI 0) (hcc : μ.1 45 0 = nI c) (hc : c ≤ 8) : pm_CT mi_X2_keep [.ref 45, .ref 1] μ (fun v μ2 => v = none ∧ μ2.2 = μ.2 ∧ (∀ i, i ≠ 45 → (i < 96 ∨ 134 < i) → μ2.1 i = μ.1 i) ∧ lr_Rel μ2.1 96 g ∧ μ2.1 45 0 = nI (min (c + 1) 8) ∧ μ2.1 45 1 = nI 1) pm_NX := by
  refine pm_CT_of (lo := [some (.ref 45), some (.ref 1)]) (by decide +kernel) rfl rfl (by intro v hv; simp at hv; rcases hv with rfl | rfl <;> rfl) (Nat.le_of_ble_eq_true rfl) rfl ?_
  obtain ⟨hm1, hm3, hm2, hm4, hm5, hm6⟩ := id hB
  refine pm_bl [(.aload_n 0, 1, 0, 0, 0), (.getfield 20, 3, 2, 2, 0), (.aload_n 0, 1, 0, 0, 0), (.getfield 15, 3, 2, 1, 0)] (pc1 := 8) (lo1 := [some (.ref 45), some (.ref 1)]) (st1 := [.int (μ.1 45 1), .ref 46]) (μ1 := μ) (vc := True) rfl (by decide +kernel) rfl trivial ?_
  rw [hn]
  refine pm_aald (r := 46) (n := 8) (j := nI 0) rfl (vp_in_nI (by omega) (by omega)) (by decide +kernel) ?_
  rw [nI_clamp (n := 0) (by omega)]
  show pm_V _ _ _ _ 9 _ [.ref 96] _
  refine pm_bl [(.aload_n 1, 1, 1, 0, 0)] (pc1 := 10) (lo1 := [some (.ref 45), some (.ref 1)]) (st1 := [.ref 1, .ref 96]) (μ1 := μ) (vc := True) rfl (by decide +kernel) rfl trivial ?_
  refine pm_callV2 mi_X5_copyFrom (ix := 25) (b := 96) (ci := 5) (kc2 := 0) (ks2 := 0) (As := [.ref 1]) (rest := []) (c_X5_copyFrom_96_1 μ hR hB) cal_X5_copyFrom lk2_25 (by decide +kernel) rfl (by decide +kernel) rfl rfl rfl rfl (Nat.le_of_ble_eq_true rfl) (by decide) (by decide) (fun _ _ h9 => h9.elim) ?_
  rintro _ μ1 ⟨rfl, x1, f1, r1⟩
  show pm_V _ _ _ _ 13 _ [] _
  refine pm_bl [(.aload_n 0, 1, 0, 0, 0), (.aload_n 0, 1, 0, 0, 0), (.getfield 15, 3, 2, 1, 0)] (pc1 := 18) (lo1 := [some (.ref 45), some (.ref 1)]) (st1 := [.int (μ1.1 45 1), .ref 45]) (μ1 := μ1) (vc := True) rfl (by decide +kernel) rfl trivial ?_
  rw [show μ1.1 45 1 = nI 0 from by rw [f1 _ (by omega), hn]]
  refine pm_bl [(.bipush 7, 2, 0, 0, 7)] (pc1 := 20) (lo1 := [some (.ref 45), some (.ref 1)]) (st1 := [.int 7, .int (nI 0), .ref 45]) (μ1 := μ1) (vc := True) rfl (by decide +kernel) rfl trivial ?_
  refine pm_icmp_ne (off := 7) 27 (by decide +kernel) (by decide) (fun (h20 : ¬ (nI 0) = 7) => ?_) (fun (h9 : (nI 0) = 7) => absurd h9 (by decide))
  refine pm_bl [(.aload_n 0, 1, 0, 0, 0), (.getfield 15, 3, 2, 1, 0)] (pc1 := 31) (lo1 := [some (.ref 45), some (.ref 1)]) (st1 := [.int (μ1.1 45 1), .ref 45]) (μ1 := μ1) (vc := True) rfl (by decide +kernel) rfl trivial ?_
  rw [show μ1.1 45 1 = nI 0 from by rw [f1 _ (by omega), hn]]
  refine pm_bl [(.iconst 1, 1, 0, 0, 1), (.iadd, 1, 0, 0, 0), (.putfield 15, 3, 2, 1, 0), (.aload_n 0, 1, 0, 0, 0), (.aload_n 0, 1, 0, 0, 0), (.getfield 9, 3, 2, 0, 0)] (pc1 := 41) (lo1 := [some (.ref 45), some (.ref 1)]) (st1 := [.int ((pm_set μ1 45 1 ((nI 0) + 1)).1 45 0), .ref 45]) (μ1 := pm_set μ1 45 1 ((nI 0) + 1)) (vc := True) rfl (by decide +kernel) rfl trivial ?_
  rw [show (pm_set μ1 45 1 ((nI 0) + 1)).1 45 0 = μ1.1 45 0 from by simp [pm_set]]
  rw [show μ1.1 45 0 = nI c from by rw [f1 _ (by omega), hcc]]
  refine pm_bl [(.iconst 1, 1, 0, 0, 1), (.iadd, 1, 0, 0, 0), (.bipush 8, 2, 0, 0, 8)] (pc1 := 45) (lo1 := [some (.ref 45), some (.ref 1)]) (st1 := [.int 8, .int ((nI c) + 1), .ref 45]) (μ1 := pm_set μ1 45 1 ((nI 0) + 1)) (vc := True) rfl (by decide +kernel) rfl trivial ?_
  refine pm_min lkM2_29 (by decide +kernel) (by decide) (Nat.le_of_ble_eq_true rfl) ?_
  rw [lr_min8 hc]
  refine pm_bl [(.putfield 9, 3, 2, 0, 0)] (pc1 := 51) (lo1 := [some (.ref 45), some (.ref 1)]) (st1 := []) (μ1 := pm_set (pm_set μ1 45 1 ((nI 0) + 1)) 45 0 (nI (min (c + 1) 8))) (vc := True) rfl (by decide +kernel) rfl trivial ?_
  exact pm_vret rfl (by decide) (by decide) (by decide +kernel) (⟨rfl, x1, fun i h1 h2 => by rw [pm_set_off h1, pm_set_off h1]; exact f1 i h2, ⟨by rw [pm_set_off (by omega), pm_set_off (by omega)]; exact r1.1, lr_Rh.st r1.2.1 hm1 (fun k h1 h2 => by rw [pm_set_off (by omega), pm_set_off (by omega)]) (fun _ _ _ => rfl), lr_Rp.st r1.2.2.1 hm3 (fun k h1 h2 => by rw [pm_set_off (by omega), pm_set_off (by omega)]) (fun _ _ _ => rfl), lr_Rw.st r1.2.2.2.1 hm2 (fun k h1 h2 => by rw [pm_set_off (by omega), pm_set_off (by omega)]) (fun _ _ _ => rfl), lr_Rr.st r1.2.2.2.2.1 hm4 (fun k h1 h2 => by rw [pm_set_off (by omega), pm_set_off (by omega)]) (fun _ _ _ => rfl), lr_Ra.st r1.2.2.2.2.2.1 hm5 (fun k h1 h2 => by rw [pm_set_off (by omega), pm_set_off (by omega)]) (fun _ _ _ => rfl), lr_Rl.st r1.2.2.2.2.2.2 hm6 (fun k h1 h2 => by rw [pm_set_off (by omega), pm_set_off (by omega)]) rfl (fun _ _ _ => rfl)⟩, pm_set_hit, by rw [pm_set_miss (Or.inr (by decide)), pm_set_hit]; first | rfl | exact nI_1 0⟩)
set_option maxHeartbeats 4000000 in
set_option maxRecDepth 100000 in
theorem c_X2_takeBack_0 {g : Nat → Int32} {c : Nat} (μ : pm_Mm) (hR : lr_Rel μ.1 369 g) (hB : lr_B g) (hn : μ.1 45 1 = nI 0) (hcc : μ.1 45 0 = nI (c + 1)) : pm_CT mi_X2_takeBack [.ref 45, .ref 1] μ (fun v μ2 => v = none ∧ μ2.2 = μ.2 ∧ (∀ i, i ≠ 45 → (i < 1 ∨ 39 < i) → μ2.1 i = μ.1 i) ∧ lr_Rel μ2.1 1 g ∧ μ2.1 45 0 = nI c ∧ μ2.1 45 1 = nI 7) pm_NX := by
  refine pm_CT_of (lo := [some (.ref 45), some (.ref 1)]) (by decide +kernel) rfl rfl (by intro v hv; simp at hv; rcases hv with rfl | rfl <;> rfl) (Nat.le_of_ble_eq_true rfl) rfl ?_
  obtain ⟨hm1, hm3, hm2, hm4, hm5, hm6⟩ := id hB
  have hR0 : lr_Rel (pm_set μ 45 1 7).1 369 g := ⟨by rw [pm_set_off (by omega)]; exact hR.1, lr_Rh.st hR.2.1 hm1 (fun k h1 h2 => by rw [pm_set_off (by omega)]) (fun _ _ _ => rfl), lr_Rp.st hR.2.2.1 hm3 (fun k h1 h2 => by rw [pm_set_off (by omega)]) (fun _ _ _ => rfl), lr_Rw.st hR.2.2.2.1 hm2 (fun k h1 h2 => by rw [pm_set_off (by omega)]) (fun _ _ _ => rfl), lr_Rr.st hR.2.2.2.2.1 hm4 (fun k h1 h2 => by rw [pm_set_off (by omega)]) (fun _ _ _ => rfl), lr_Ra.st hR.2.2.2.2.2.1 hm5 (fun k h1 h2 => by rw [pm_set_off (by omega)]) (fun _ _ _ => rfl), lr_Rl.st hR.2.2.2.2.2.2 hm6 (fun k h1 h2 => by rw [pm_set_off (by omega)]) rfl (fun _ _ _ => rfl)⟩
  refine pm_bl [(.aload_n 0, 1, 0, 0, 0), (.aload_n 0, 1, 0, 0, 0), (.getfield 15, 3, 2, 1, 0)] (pc1 := 5) (lo1 := [some (.ref 45), some (.ref 1)]) (st1 := [.int (μ.1 45 1), .ref 45]) (μ1 := μ) (vc := True) rfl (by decide +kernel) rfl trivial ?_
  rw [hn]
  refine pm_if_ne (off := 8) 13 (by decide +kernel) (by decide) (fun (h9 : ¬ (nI 0) = 0) => absurd h9 (by decide)) (fun (h5 : (nI 0) = 0) => ?_)
  refine pm_bl [(.bipush 7, 2, 0, 0, 7), (.goto 9, 3, 19, 0, 0), (.putfield 15, 3, 2, 1, 0), (.aload_n 1, 1, 1, 0, 0), (.aload_n 0, 1, 0, 0, 0), (.getfield 20, 3, 2, 2, 0), (.aload_n 0, 1, 0, 0, 0), (.getfield 15, 3, 2, 1, 0)] (pc1 := 31) (lo1 := [some (.ref 45), some (.ref 1)]) (st1 := [.int ((pm_set μ 45 1 7).1 45 1), .ref 46, .ref 1]) (μ1 := pm_set μ 45 1 7) (vc := True) rfl (by decide +kernel) rfl trivial ?_
  rw [show (pm_set μ 45 1 7).1 45 1 = 7 from by simp [pm_set]]
  refine pm_aald (r := 46) (n := 8) (j := 7) rfl (by rw [show (7 : Int32) = nI 7 from by decide]; exact vp_in_nI (by omega) (by omega)) (by decide +kernel) ?_
  rw [show ((7 : Int32)).toNatClampNeg = 7 from by decide]
  show pm_V _ _ _ _ 32 _ [.ref 369, .ref 1] _
  refine pm_callV2 mi_X5_copyFrom (ix := 25) (b := 1) (ci := 5) (kc2 := 0) (ks2 := 0) (As := [.ref 369]) (rest := []) (c_X5_copyFrom_1_369 (pm_set μ 45 1 7) hR0 hB) cal_X5_copyFrom lk2_25 (by decide +kernel) rfl (by decide +kernel) rfl rfl rfl rfl (Nat.le_of_ble_eq_true rfl) (by decide) (by decide) (fun _ _ h9 => h9.elim) ?_
  rintro _ μ1 ⟨rfl, x1, f1, r1⟩
  show pm_V _ _ _ _ 35 _ [] _
  refine pm_bl [(.aload_n 0, 1, 0, 0, 0), (.dup, 1, 0, 0, 0), (.getfield 9, 3, 2, 0, 0)] (pc1 := 40) (lo1 := [some (.ref 45), some (.ref 1)]) (st1 := [.int (μ1.1 45 0), .ref 45]) (μ1 := μ1) (vc := True) rfl (by decide +kernel) rfl trivial ?_
  rw [show μ1.1 45 0 = nI (c + 1) from by rw [f1 _ (by omega), pm_set_miss (Or.inr (by decide)), hcc]]
  refine pm_bl [(.iconst 1, 1, 0, 0, 1), (.isub, 1, 0, 0, 0), (.putfield 9, 3, 2, 0, 0)] (pc1 := 45) (lo1 := [some (.ref 45), some (.ref 1)]) (st1 := []) (μ1 := pm_set μ1 45 0 ((nI (c + 1)) - 1)) (vc := True) rfl (by decide +kernel) rfl trivial ?_
  exact pm_vret rfl (by decide) (by decide) (by decide +kernel) (⟨rfl, x1, fun i h1 h2 => by rw [pm_set_off h1, f1 i h2, pm_set_off h1], ⟨by rw [pm_set_off (by omega)]; exact r1.1, lr_Rh.st r1.2.1 hm1 (fun k h1 h2 => by rw [pm_set_off (by omega)]) (fun _ _ _ => rfl), lr_Rp.st r1.2.2.1 hm3 (fun k h1 h2 => by rw [pm_set_off (by omega)]) (fun _ _ _ => rfl), lr_Rw.st r1.2.2.2.1 hm2 (fun k h1 h2 => by rw [pm_set_off (by omega)]) (fun _ _ _ => rfl), lr_Rr.st r1.2.2.2.2.1 hm4 (fun k h1 h2 => by rw [pm_set_off (by omega)]) (fun _ _ _ => rfl), lr_Ra.st r1.2.2.2.2.2.1 hm5 (fun k h1 h2 => by rw [pm_set_off (by omega)]) (fun _ _ _ => rfl), lr_Rl.st r1.2.2.2.2.2.2 hm6 (fun k h1 h2 => by rw [pm_set_off (by omega)]) rfl (fun _ _ _ => rfl)⟩, by rw [pm_set_hit, nI_pred], by rw [pm_set_miss (Or.inr (by decide)), f1 _ (by omega), pm_set_hit]; first | rfl | decide⟩)
set_option maxHeartbeats 4000000 in
set_option maxRecDepth 100000 in
theorem c_X2_keep_1 {g : Nat → Int32} {c : Nat} (μ : pm_Mm) (hR : lr_Rel μ.1 1 g) (hB : lr_B g) (hn : μ.1 45 1 = nI 1) (hcc : μ.1 45 0 = nI c) (hc : c ≤ 8) : pm_CT mi_X2_keep [.ref 45, .ref 1] μ (fun v μ2 => v = none ∧ μ2.2 = μ.2 ∧ (∀ i, i ≠ 45 → (i < 135 ∨ 173 < i) → μ2.1 i = μ.1 i) ∧ lr_Rel μ2.1 135 g ∧ μ2.1 45 0 = nI (min (c + 1) 8) ∧ μ2.1 45 1 = nI 2) pm_NX := by
  refine pm_CT_of (lo := [some (.ref 45), some (.ref 1)]) (by decide +kernel) rfl rfl (by intro v hv; simp at hv; rcases hv with rfl | rfl <;> rfl) (Nat.le_of_ble_eq_true rfl) rfl ?_
  obtain ⟨hm1, hm3, hm2, hm4, hm5, hm6⟩ := id hB
  refine pm_bl [(.aload_n 0, 1, 0, 0, 0), (.getfield 20, 3, 2, 2, 0), (.aload_n 0, 1, 0, 0, 0), (.getfield 15, 3, 2, 1, 0)] (pc1 := 8) (lo1 := [some (.ref 45), some (.ref 1)]) (st1 := [.int (μ.1 45 1), .ref 46]) (μ1 := μ) (vc := True) rfl (by decide +kernel) rfl trivial ?_
  rw [hn]
  refine pm_aald (r := 46) (n := 8) (j := nI 1) rfl (vp_in_nI (by omega) (by omega)) (by decide +kernel) ?_
  rw [nI_clamp (n := 1) (by omega)]
  show pm_V _ _ _ _ 9 _ [.ref 135] _
  refine pm_bl [(.aload_n 1, 1, 1, 0, 0)] (pc1 := 10) (lo1 := [some (.ref 45), some (.ref 1)]) (st1 := [.ref 1, .ref 135]) (μ1 := μ) (vc := True) rfl (by decide +kernel) rfl trivial ?_
  refine pm_callV2 mi_X5_copyFrom (ix := 25) (b := 135) (ci := 5) (kc2 := 0) (ks2 := 0) (As := [.ref 1]) (rest := []) (c_X5_copyFrom_135_1 μ hR hB) cal_X5_copyFrom lk2_25 (by decide +kernel) rfl (by decide +kernel) rfl rfl rfl rfl (Nat.le_of_ble_eq_true rfl) (by decide) (by decide) (fun _ _ h9 => h9.elim) ?_
  rintro _ μ1 ⟨rfl, x1, f1, r1⟩
  show pm_V _ _ _ _ 13 _ [] _
  refine pm_bl [(.aload_n 0, 1, 0, 0, 0), (.aload_n 0, 1, 0, 0, 0), (.getfield 15, 3, 2, 1, 0)] (pc1 := 18) (lo1 := [some (.ref 45), some (.ref 1)]) (st1 := [.int (μ1.1 45 1), .ref 45]) (μ1 := μ1) (vc := True) rfl (by decide +kernel) rfl trivial ?_
  rw [show μ1.1 45 1 = nI 1 from by rw [f1 _ (by omega), hn]]
  refine pm_bl [(.bipush 7, 2, 0, 0, 7)] (pc1 := 20) (lo1 := [some (.ref 45), some (.ref 1)]) (st1 := [.int 7, .int (nI 1), .ref 45]) (μ1 := μ1) (vc := True) rfl (by decide +kernel) rfl trivial ?_
  refine pm_icmp_ne (off := 7) 27 (by decide +kernel) (by decide) (fun (h20 : ¬ (nI 1) = 7) => ?_) (fun (h9 : (nI 1) = 7) => absurd h9 (by decide))
  refine pm_bl [(.aload_n 0, 1, 0, 0, 0), (.getfield 15, 3, 2, 1, 0)] (pc1 := 31) (lo1 := [some (.ref 45), some (.ref 1)]) (st1 := [.int (μ1.1 45 1), .ref 45]) (μ1 := μ1) (vc := True) rfl (by decide +kernel) rfl trivial ?_
  rw [show μ1.1 45 1 = nI 1 from by rw [f1 _ (by omega), hn]]
  refine pm_bl [(.iconst 1, 1, 0, 0, 1), (.iadd, 1, 0, 0, 0), (.putfield 15, 3, 2, 1, 0), (.aload_n 0, 1, 0, 0, 0), (.aload_n 0, 1, 0, 0, 0), (.getfield 9, 3, 2, 0, 0)] (pc1 := 41) (lo1 := [some (.ref 45), some (.ref 1)]) (st1 := [.int ((pm_set μ1 45 1 ((nI 1) + 1)).1 45 0), .ref 45]) (μ1 := pm_set μ1 45 1 ((nI 1) + 1)) (vc := True) rfl (by decide +kernel) rfl trivial ?_
  rw [show (pm_set μ1 45 1 ((nI 1) + 1)).1 45 0 = μ1.1 45 0 from by simp [pm_set]]
  rw [show μ1.1 45 0 = nI c from by rw [f1 _ (by omega), hcc]]
  refine pm_bl [(.iconst 1, 1, 0, 0, 1), (.iadd, 1, 0, 0, 0), (.bipush 8, 2, 0, 0, 8)] (pc1 := 45) (lo1 := [some (.ref 45), some (.ref 1)]) (st1 := [.int 8, .int ((nI c) + 1), .ref 45]) (μ1 := pm_set μ1 45 1 ((nI 1) + 1)) (vc := True) rfl (by decide +kernel) rfl trivial ?_
  refine pm_min lkM2_29 (by decide +kernel) (by decide) (Nat.le_of_ble_eq_true rfl) ?_
  rw [lr_min8 hc]
  refine pm_bl [(.putfield 9, 3, 2, 0, 0)] (pc1 := 51) (lo1 := [some (.ref 45), some (.ref 1)]) (st1 := []) (μ1 := pm_set (pm_set μ1 45 1 ((nI 1) + 1)) 45 0 (nI (min (c + 1) 8))) (vc := True) rfl (by decide +kernel) rfl trivial ?_
  exact pm_vret rfl (by decide) (by decide) (by decide +kernel) (⟨rfl, x1, fun i h1 h2 => by rw [pm_set_off h1, pm_set_off h1]; exact f1 i h2, ⟨by rw [pm_set_off (by omega), pm_set_off (by omega)]; exact r1.1, lr_Rh.st r1.2.1 hm1 (fun k h1 h2 => by rw [pm_set_off (by omega), pm_set_off (by omega)]) (fun _ _ _ => rfl), lr_Rp.st r1.2.2.1 hm3 (fun k h1 h2 => by rw [pm_set_off (by omega), pm_set_off (by omega)]) (fun _ _ _ => rfl), lr_Rw.st r1.2.2.2.1 hm2 (fun k h1 h2 => by rw [pm_set_off (by omega), pm_set_off (by omega)]) (fun _ _ _ => rfl), lr_Rr.st r1.2.2.2.2.1 hm4 (fun k h1 h2 => by rw [pm_set_off (by omega), pm_set_off (by omega)]) (fun _ _ _ => rfl), lr_Ra.st r1.2.2.2.2.2.1 hm5 (fun k h1 h2 => by rw [pm_set_off (by omega), pm_set_off (by omega)]) (fun _ _ _ => rfl), lr_Rl.st r1.2.2.2.2.2.2 hm6 (fun k h1 h2 => by rw [pm_set_off (by omega), pm_set_off (by omega)]) rfl (fun _ _ _ => rfl)⟩, pm_set_hit, by rw [pm_set_miss (Or.inr (by decide)), pm_set_hit]; first | rfl | exact nI_1 1⟩)
set_option maxHeartbeats 4000000 in
set_option maxRecDepth 100000 in
theorem c_X2_takeBack_1 {g : Nat → Int32} {c : Nat} (μ : pm_Mm) (hR : lr_Rel μ.1 96 g) (hB : lr_B g) (hn : μ.1 45 1 = nI 1) (hcc : μ.1 45 0 = nI (c + 1)) : pm_CT mi_X2_takeBack [.ref 45, .ref 1] μ (fun v μ2 => v = none ∧ μ2.2 = μ.2 ∧ (∀ i, i ≠ 45 → (i < 1 ∨ 39 < i) → μ2.1 i = μ.1 i) ∧ lr_Rel μ2.1 1 g ∧ μ2.1 45 0 = nI c ∧ μ2.1 45 1 = nI 0) pm_NX := by
  refine pm_CT_of (lo := [some (.ref 45), some (.ref 1)]) (by decide +kernel) rfl rfl (by intro v hv; simp at hv; rcases hv with rfl | rfl <;> rfl) (Nat.le_of_ble_eq_true rfl) rfl ?_
  obtain ⟨hm1, hm3, hm2, hm4, hm5, hm6⟩ := id hB
  have hR0 : lr_Rel (pm_set μ 45 1 (nI 1 - 1)).1 96 g := ⟨by rw [pm_set_off (by omega)]; exact hR.1, lr_Rh.st hR.2.1 hm1 (fun k h1 h2 => by rw [pm_set_off (by omega)]) (fun _ _ _ => rfl), lr_Rp.st hR.2.2.1 hm3 (fun k h1 h2 => by rw [pm_set_off (by omega)]) (fun _ _ _ => rfl), lr_Rw.st hR.2.2.2.1 hm2 (fun k h1 h2 => by rw [pm_set_off (by omega)]) (fun _ _ _ => rfl), lr_Rr.st hR.2.2.2.2.1 hm4 (fun k h1 h2 => by rw [pm_set_off (by omega)]) (fun _ _ _ => rfl), lr_Ra.st hR.2.2.2.2.2.1 hm5 (fun k h1 h2 => by rw [pm_set_off (by omega)]) (fun _ _ _ => rfl), lr_Rl.st hR.2.2.2.2.2.2 hm6 (fun k h1 h2 => by rw [pm_set_off (by omega)]) rfl (fun _ _ _ => rfl)⟩
  refine pm_bl [(.aload_n 0, 1, 0, 0, 0), (.aload_n 0, 1, 0, 0, 0), (.getfield 15, 3, 2, 1, 0)] (pc1 := 5) (lo1 := [some (.ref 45), some (.ref 1)]) (st1 := [.int (μ.1 45 1), .ref 45]) (μ1 := μ) (vc := True) rfl (by decide +kernel) rfl trivial ?_
  rw [hn]
  refine pm_if_ne (off := 8) 13 (by decide +kernel) (by decide) (fun (h5 : ¬ (nI 1) = 0) => ?_) (fun (h9 : (nI 1) = 0) => absurd h9 (by decide))
  refine pm_bl [(.aload_n 0, 1, 0, 0, 0), (.getfield 15, 3, 2, 1, 0)] (pc1 := 17) (lo1 := [some (.ref 45), some (.ref 1)]) (st1 := [.int (μ.1 45 1), .ref 45]) (μ1 := μ) (vc := True) rfl (by decide +kernel) rfl trivial ?_
  rw [hn]
  refine pm_bl [(.iconst 1, 1, 0, 0, 1), (.isub, 1, 0, 0, 0), (.putfield 15, 3, 2, 1, 0), (.aload_n 1, 1, 1, 0, 0), (.aload_n 0, 1, 0, 0, 0), (.getfield 20, 3, 2, 2, 0), (.aload_n 0, 1, 0, 0, 0), (.getfield 15, 3, 2, 1, 0)] (pc1 := 31) (lo1 := [some (.ref 45), some (.ref 1)]) (st1 := [.int ((pm_set μ 45 1 ((nI 1) - 1)).1 45 1), .ref 46, .ref 1]) (μ1 := pm_set μ 45 1 ((nI 1) - 1)) (vc := True) rfl (by decide +kernel) rfl trivial ?_
  rw [show (pm_set μ 45 1 ((nI 1) - 1)).1 45 1 = (nI 1) - 1 from by simp [pm_set]]
  refine pm_aald (r := 46) (n := 8) (j := (nI 1 - 1)) rfl (by rw [show (nI 1 - 1) = nI 0 from by decide]; exact vp_in_nI (by omega) (by omega)) (by decide +kernel) ?_
  rw [show ((nI 1 - 1)).toNatClampNeg = 0 from by decide]
  show pm_V _ _ _ _ 32 _ [.ref 96, .ref 1] _
  refine pm_callV2 mi_X5_copyFrom (ix := 25) (b := 1) (ci := 5) (kc2 := 0) (ks2 := 0) (As := [.ref 96]) (rest := []) (c_X5_copyFrom_1_96 (pm_set μ 45 1 ((nI 1) - 1)) hR0 hB) cal_X5_copyFrom lk2_25 (by decide +kernel) rfl (by decide +kernel) rfl rfl rfl rfl (Nat.le_of_ble_eq_true rfl) (by decide) (by decide) (fun _ _ h9 => h9.elim) ?_
  rintro _ μ1 ⟨rfl, x1, f1, r1⟩
  show pm_V _ _ _ _ 35 _ [] _
  refine pm_bl [(.aload_n 0, 1, 0, 0, 0), (.dup, 1, 0, 0, 0), (.getfield 9, 3, 2, 0, 0)] (pc1 := 40) (lo1 := [some (.ref 45), some (.ref 1)]) (st1 := [.int (μ1.1 45 0), .ref 45]) (μ1 := μ1) (vc := True) rfl (by decide +kernel) rfl trivial ?_
  rw [show μ1.1 45 0 = nI (c + 1) from by rw [f1 _ (by omega), pm_set_miss (Or.inr (by decide)), hcc]]
  refine pm_bl [(.iconst 1, 1, 0, 0, 1), (.isub, 1, 0, 0, 0), (.putfield 9, 3, 2, 0, 0)] (pc1 := 45) (lo1 := [some (.ref 45), some (.ref 1)]) (st1 := []) (μ1 := pm_set μ1 45 0 ((nI (c + 1)) - 1)) (vc := True) rfl (by decide +kernel) rfl trivial ?_
  exact pm_vret rfl (by decide) (by decide) (by decide +kernel) (⟨rfl, x1, fun i h1 h2 => by rw [pm_set_off h1, f1 i h2, pm_set_off h1], ⟨by rw [pm_set_off (by omega)]; exact r1.1, lr_Rh.st r1.2.1 hm1 (fun k h1 h2 => by rw [pm_set_off (by omega)]) (fun _ _ _ => rfl), lr_Rp.st r1.2.2.1 hm3 (fun k h1 h2 => by rw [pm_set_off (by omega)]) (fun _ _ _ => rfl), lr_Rw.st r1.2.2.2.1 hm2 (fun k h1 h2 => by rw [pm_set_off (by omega)]) (fun _ _ _ => rfl), lr_Rr.st r1.2.2.2.2.1 hm4 (fun k h1 h2 => by rw [pm_set_off (by omega)]) (fun _ _ _ => rfl), lr_Ra.st r1.2.2.2.2.2.1 hm5 (fun k h1 h2 => by rw [pm_set_off (by omega)]) (fun _ _ _ => rfl), lr_Rl.st r1.2.2.2.2.2.2 hm6 (fun k h1 h2 => by rw [pm_set_off (by omega)]) rfl (fun _ _ _ => rfl)⟩, by rw [pm_set_hit, nI_pred], by rw [pm_set_miss (Or.inr (by decide)), f1 _ (by omega), pm_set_hit]; first | rfl | decide⟩)
set_option maxHeartbeats 4000000 in
set_option maxRecDepth 100000 in
theorem c_X2_keep_2 {g : Nat → Int32} {c : Nat} (μ : pm_Mm) (hR : lr_Rel μ.1 1 g) (hB : lr_B g) (hn : μ.1 45 1 = nI 2) (hcc : μ.1 45 0 = nI c) (hc : c ≤ 8) : pm_CT mi_X2_keep [.ref 45, .ref 1] μ (fun v μ2 => v = none ∧ μ2.2 = μ.2 ∧ (∀ i, i ≠ 45 → (i < 174 ∨ 212 < i) → μ2.1 i = μ.1 i) ∧ lr_Rel μ2.1 174 g ∧ μ2.1 45 0 = nI (min (c + 1) 8) ∧ μ2.1 45 1 = nI 3) pm_NX := by
  refine pm_CT_of (lo := [some (.ref 45), some (.ref 1)]) (by decide +kernel) rfl rfl (by intro v hv; simp at hv; rcases hv with rfl | rfl <;> rfl) (Nat.le_of_ble_eq_true rfl) rfl ?_
  obtain ⟨hm1, hm3, hm2, hm4, hm5, hm6⟩ := id hB
  refine pm_bl [(.aload_n 0, 1, 0, 0, 0), (.getfield 20, 3, 2, 2, 0), (.aload_n 0, 1, 0, 0, 0), (.getfield 15, 3, 2, 1, 0)] (pc1 := 8) (lo1 := [some (.ref 45), some (.ref 1)]) (st1 := [.int (μ.1 45 1), .ref 46]) (μ1 := μ) (vc := True) rfl (by decide +kernel) rfl trivial ?_
  rw [hn]
  refine pm_aald (r := 46) (n := 8) (j := nI 2) rfl (vp_in_nI (by omega) (by omega)) (by decide +kernel) ?_
  rw [nI_clamp (n := 2) (by omega)]
  show pm_V _ _ _ _ 9 _ [.ref 174] _
  refine pm_bl [(.aload_n 1, 1, 1, 0, 0)] (pc1 := 10) (lo1 := [some (.ref 45), some (.ref 1)]) (st1 := [.ref 1, .ref 174]) (μ1 := μ) (vc := True) rfl (by decide +kernel) rfl trivial ?_
  refine pm_callV2 mi_X5_copyFrom (ix := 25) (b := 174) (ci := 5) (kc2 := 0) (ks2 := 0) (As := [.ref 1]) (rest := []) (c_X5_copyFrom_174_1 μ hR hB) cal_X5_copyFrom lk2_25 (by decide +kernel) rfl (by decide +kernel) rfl rfl rfl rfl (Nat.le_of_ble_eq_true rfl) (by decide) (by decide) (fun _ _ h9 => h9.elim) ?_
  rintro _ μ1 ⟨rfl, x1, f1, r1⟩
  show pm_V _ _ _ _ 13 _ [] _
  refine pm_bl [(.aload_n 0, 1, 0, 0, 0), (.aload_n 0, 1, 0, 0, 0), (.getfield 15, 3, 2, 1, 0)] (pc1 := 18) (lo1 := [some (.ref 45), some (.ref 1)]) (st1 := [.int (μ1.1 45 1), .ref 45]) (μ1 := μ1) (vc := True) rfl (by decide +kernel) rfl trivial ?_
  rw [show μ1.1 45 1 = nI 2 from by rw [f1 _ (by omega), hn]]
  refine pm_bl [(.bipush 7, 2, 0, 0, 7)] (pc1 := 20) (lo1 := [some (.ref 45), some (.ref 1)]) (st1 := [.int 7, .int (nI 2), .ref 45]) (μ1 := μ1) (vc := True) rfl (by decide +kernel) rfl trivial ?_
  refine pm_icmp_ne (off := 7) 27 (by decide +kernel) (by decide) (fun (h20 : ¬ (nI 2) = 7) => ?_) (fun (h9 : (nI 2) = 7) => absurd h9 (by decide))
  refine pm_bl [(.aload_n 0, 1, 0, 0, 0), (.getfield 15, 3, 2, 1, 0)] (pc1 := 31) (lo1 := [some (.ref 45), some (.ref 1)]) (st1 := [.int (μ1.1 45 1), .ref 45]) (μ1 := μ1) (vc := True) rfl (by decide +kernel) rfl trivial ?_
  rw [show μ1.1 45 1 = nI 2 from by rw [f1 _ (by omega), hn]]
  refine pm_bl [(.iconst 1, 1, 0, 0, 1), (.iadd, 1, 0, 0, 0), (.putfield 15, 3, 2, 1, 0), (.aload_n 0, 1, 0, 0, 0), (.aload_n 0, 1, 0, 0, 0), (.getfield 9, 3, 2, 0, 0)] (pc1 := 41) (lo1 := [some (.ref 45), some (.ref 1)]) (st1 := [.int ((pm_set μ1 45 1 ((nI 2) + 1)).1 45 0), .ref 45]) (μ1 := pm_set μ1 45 1 ((nI 2) + 1)) (vc := True) rfl (by decide +kernel) rfl trivial ?_
  rw [show (pm_set μ1 45 1 ((nI 2) + 1)).1 45 0 = μ1.1 45 0 from by simp [pm_set]]
  rw [show μ1.1 45 0 = nI c from by rw [f1 _ (by omega), hcc]]
  refine pm_bl [(.iconst 1, 1, 0, 0, 1), (.iadd, 1, 0, 0, 0), (.bipush 8, 2, 0, 0, 8)] (pc1 := 45) (lo1 := [some (.ref 45), some (.ref 1)]) (st1 := [.int 8, .int ((nI c) + 1), .ref 45]) (μ1 := pm_set μ1 45 1 ((nI 2) + 1)) (vc := True) rfl (by decide +kernel) rfl trivial ?_
  refine pm_min lkM2_29 (by decide +kernel) (by decide) (Nat.le_of_ble_eq_true rfl) ?_
  rw [lr_min8 hc]
  refine pm_bl [(.putfield 9, 3, 2, 0, 0)] (pc1 := 51) (lo1 := [some (.ref 45), some (.ref 1)]) (st1 := []) (μ1 := pm_set (pm_set μ1 45 1 ((nI 2) + 1)) 45 0 (nI (min (c + 1) 8))) (vc := True) rfl (by decide +kernel) rfl trivial ?_
  exact pm_vret rfl (by decide) (by decide) (by decide +kernel) (⟨rfl, x1, fun i h1 h2 => by rw [pm_set_off h1, pm_set_off h1]; exact f1 i h2, ⟨by rw [pm_set_off (by omega), pm_set_off (by omega)]; exact r1.1, lr_Rh.st r1.2.1 hm1 (fun k h1 h2 => by rw [pm_set_off (by omega), pm_set_off (by omega)]) (fun _ _ _ => rfl), lr_Rp.st r1.2.2.1 hm3 (fun k h1 h2 => by rw [pm_set_off (by omega), pm_set_off (by omega)]) (fun _ _ _ => rfl), lr_Rw.st r1.2.2.2.1 hm2 (fun k h1 h2 => by rw [pm_set_off (by omega), pm_set_off (by omega)]) (fun _ _ _ => rfl), lr_Rr.st r1.2.2.2.2.1 hm4 (fun k h1 h2 => by rw [pm_set_off (by omega), pm_set_off (by omega)]) (fun _ _ _ => rfl), lr_Ra.st r1.2.2.2.2.2.1 hm5 (fun k h1 h2 => by rw [pm_set_off (by omega), pm_set_off (by omega)]) (fun _ _ _ => rfl), lr_Rl.st r1.2.2.2.2.2.2 hm6 (fun k h1 h2 => by rw [pm_set_off (by omega), pm_set_off (by omega)]) rfl (fun _ _ _ => rfl)⟩, pm_set_hit, by rw [pm_set_miss (Or.inr (by decide)), pm_set_hit]; first | rfl | exact nI_1 2⟩)
set_option maxHeartbeats 4000000 in
set_option maxRecDepth 100000 in
theorem c_X2_takeBack_2 {g : Nat → Int32} {c : Nat} (μ : pm_Mm) (hR : lr_Rel μ.1 135 g) (hB : lr_B g) (hn : μ.1 45 1 = nI 2) (hcc : μ.1 45 0 = nI (c + 1)) : pm_CT mi_X2_takeBack [.ref 45, .ref 1] μ (fun v μ2 => v = none ∧ μ2.2 = μ.2 ∧ (∀ i, i ≠ 45 → (i < 1 ∨ 39 < i) → μ2.1 i = μ.1 i) ∧ lr_Rel μ2.1 1 g ∧ μ2.1 45 0 = nI c ∧ μ2.1 45 1 = nI 1) pm_NX := by
  refine pm_CT_of (lo := [some (.ref 45), some (.ref 1)]) (by decide +kernel) rfl rfl (by intro v hv; simp at hv; rcases hv with rfl | rfl <;> rfl) (Nat.le_of_ble_eq_true rfl) rfl ?_
  obtain ⟨hm1, hm3, hm2, hm4, hm5, hm6⟩ := id hB
  have hR0 : lr_Rel (pm_set μ 45 1 (nI 2 - 1)).1 135 g := ⟨by rw [pm_set_off (by omega)]; exact hR.1, lr_Rh.st hR.2.1 hm1 (fun k h1 h2 => by rw [pm_set_off (by omega)]) (fun _ _ _ => rfl), lr_Rp.st hR.2.2.1 hm3 (fun k h1 h2 => by rw [pm_set_off (by omega)]) (fun _ _ _ => rfl), lr_Rw.st hR.2.2.2.1 hm2 (fun k h1 h2 => by rw [pm_set_off (by omega)]) (fun _ _ _ => rfl), lr_Rr.st hR.2.2.2.2.1 hm4 (fun k h1 h2 => by rw [pm_set_off (by omega)]) (fun _ _ _ => rfl), lr_Ra.st hR.2.2.2.2.2.1 hm5 (fun k h1 h2 => by rw [pm_set_off (by omega)]) (fun _ _ _ => rfl), lr_Rl.st hR.2.2.2.2.2.2 hm6 (fun k h1 h2 => by rw [pm_set_off (by omega)]) rfl (fun _ _ _ => rfl)⟩
  refine pm_bl [(.aload_n 0, 1, 0, 0, 0), (.aload_n 0, 1, 0, 0, 0), (.getfield 15, 3, 2, 1, 0)] (pc1 := 5) (lo1 := [some (.ref 45), some (.ref 1)]) (st1 := [.int (μ.1 45 1), .ref 45]) (μ1 := μ) (vc := True) rfl (by decide +kernel) rfl trivial ?_
  rw [hn]
  refine pm_if_ne (off := 8) 13 (by decide +kernel) (by decide) (fun (h5 : ¬ (nI 2) = 0) => ?_) (fun (h9 : (nI 2) = 0) => absurd h9 (by decide))
  refine pm_bl [(.aload_n 0, 1, 0, 0, 0), (.getfield 15, 3, 2, 1, 0)] (pc1 := 17) (lo1 := [some (.ref 45), some (.ref 1)]) (st1 := [.int (μ.1 45 1), .ref 45]) (μ1 := μ) (vc := True) rfl (by decide +kernel) rfl trivial ?_
  rw [hn]
  refine pm_bl [(.iconst 1, 1, 0, 0, 1), (.isub, 1, 0, 0, 0), (.putfield 15, 3, 2, 1, 0), (.aload_n 1, 1, 1, 0, 0), (.aload_n 0, 1, 0, 0, 0), (.getfield 20, 3, 2, 2, 0), (.aload_n 0, 1, 0, 0, 0), (.getfield 15, 3, 2, 1, 0)] (pc1 := 31) (lo1 := [some (.ref 45), some (.ref 1)]) (st1 := [.int ((pm_set μ 45 1 ((nI 2) - 1)).1 45 1), .ref 46, .ref 1]) (μ1 := pm_set μ 45 1 ((nI 2) - 1)) (vc := True) rfl (by decide +kernel) rfl trivial ?_
  rw [show (pm_set μ 45 1 ((nI 2) - 1)).1 45 1 = (nI 2) - 1 from by simp [pm_set]]
  refine pm_aald (r := 46) (n := 8) (j := (nI 2 - 1)) rfl (by rw [show (nI 2 - 1) = nI 1 from by decide]; exact vp_in_nI (by omega) (by omega)) (by decide +kernel) ?_
  rw [show ((nI 2 - 1)).toNatClampNeg = 1 from by decide]
  show pm_V _ _ _ _ 32 _ [.ref 135, .ref 1] _
  refine pm_callV2 mi_X5_copyFrom (ix := 25) (b := 1) (ci := 5) (kc2 := 0) (ks2 := 0) (As := [.ref 135]) (rest := []) (c_X5_copyFrom_1_135 (pm_set μ 45 1 ((nI 2) - 1)) hR0 hB) cal_X5_copyFrom lk2_25 (by decide +kernel) rfl (by decide +kernel) rfl rfl rfl rfl (Nat.le_of_ble_eq_true rfl) (by decide) (by decide) (fun _ _ h9 => h9.elim) ?_
  rintro _ μ1 ⟨rfl, x1, f1, r1⟩
  show pm_V _ _ _ _ 35 _ [] _
  refine pm_bl [(.aload_n 0, 1, 0, 0, 0), (.dup, 1, 0, 0, 0), (.getfield 9, 3, 2, 0, 0)] (pc1 := 40) (lo1 := [some (.ref 45), some (.ref 1)]) (st1 := [.int (μ1.1 45 0), .ref 45]) (μ1 := μ1) (vc := True) rfl (by decide +kernel) rfl trivial ?_
  rw [show μ1.1 45 0 = nI (c + 1) from by rw [f1 _ (by omega), pm_set_miss (Or.inr (by decide)), hcc]]
  refine pm_bl [(.iconst 1, 1, 0, 0, 1), (.isub, 1, 0, 0, 0), (.putfield 9, 3, 2, 0, 0)] (pc1 := 45) (lo1 := [some (.ref 45), some (.ref 1)]) (st1 := []) (μ1 := pm_set μ1 45 0 ((nI (c + 1)) - 1)) (vc := True) rfl (by decide +kernel) rfl trivial ?_
  exact pm_vret rfl (by decide) (by decide) (by decide +kernel) (⟨rfl, x1, fun i h1 h2 => by rw [pm_set_off h1, f1 i h2, pm_set_off h1], ⟨by rw [pm_set_off (by omega)]; exact r1.1, lr_Rh.st r1.2.1 hm1 (fun k h1 h2 => by rw [pm_set_off (by omega)]) (fun _ _ _ => rfl), lr_Rp.st r1.2.2.1 hm3 (fun k h1 h2 => by rw [pm_set_off (by omega)]) (fun _ _ _ => rfl), lr_Rw.st r1.2.2.2.1 hm2 (fun k h1 h2 => by rw [pm_set_off (by omega)]) (fun _ _ _ => rfl), lr_Rr.st r1.2.2.2.2.1 hm4 (fun k h1 h2 => by rw [pm_set_off (by omega)]) (fun _ _ _ => rfl), lr_Ra.st r1.2.2.2.2.2.1 hm5 (fun k h1 h2 => by rw [pm_set_off (by omega)]) (fun _ _ _ => rfl), lr_Rl.st r1.2.2.2.2.2.2 hm6 (fun k h1 h2 => by rw [pm_set_off (by omega)]) rfl (fun _ _ _ => rfl)⟩, by rw [pm_set_hit, nI_pred], by rw [pm_set_miss (Or.inr (by decide)), f1 _ (by omega), pm_set_hit]; first | rfl | decide⟩)
set_option maxHeartbeats 4000000 in
set_option maxRecDepth 100000 in
theorem c_X2_keep_3 {g : Nat → Int32} {c : Nat} (μ : pm_Mm) (hR : lr_Rel μ.1 1 g) (hB : lr_B g) (hn : μ.1 45 1 = nI 3) (hcc : μ.1 45 0 = nI c) (hc : c ≤ 8) : pm_CT mi_X2_keep [.ref 45, .ref 1] μ (fun v μ2 => v = none ∧ μ2.2 = μ.2 ∧ (∀ i, i ≠ 45 → (i < 213 ∨ 251 < i) → μ2.1 i = μ.1 i) ∧ lr_Rel μ2.1 213 g ∧ μ2.1 45 0 = nI (min (c + 1) 8) ∧ μ2.1 45 1 = nI 4) pm_NX := by
  refine pm_CT_of (lo := [some (.ref 45), some (.ref 1)]) (by decide +kernel) rfl rfl (by intro v hv; simp at hv; rcases hv with rfl | rfl <;> rfl) (Nat.le_of_ble_eq_true rfl) rfl ?_
  obtain ⟨hm1, hm3, hm2, hm4, hm5, hm6⟩ := id hB
  refine pm_bl [(.aload_n 0, 1, 0, 0, 0), (.getfield 20, 3, 2, 2, 0), (.aload_n 0, 1, 0, 0, 0), (.getfield 15, 3, 2, 1, 0)] (pc1 := 8) (lo1 := [some (.ref 45), some (.ref 1)]) (st1 := [.int (μ.1 45 1), .ref 46]) (μ1 := μ) (vc := True) rfl (by decide +kernel) rfl trivial ?_
  rw [hn]
  refine pm_aald (r := 46) (n := 8) (j := nI 3) rfl (vp_in_nI (by omega) (by omega)) (by decide +kernel) ?_
  rw [nI_clamp (n := 3) (by omega)]
  show pm_V _ _ _ _ 9 _ [.ref 213] _
  refine pm_bl [(.aload_n 1, 1, 1, 0, 0)] (pc1 := 10) (lo1 := [some (.ref 45), some (.ref 1)]) (st1 := [.ref 1, .ref 213]) (μ1 := μ) (vc := True) rfl (by decide +kernel) rfl trivial ?_
  refine pm_callV2 mi_X5_copyFrom (ix := 25) (b := 213) (ci := 5) (kc2 := 0) (ks2 := 0) (As := [.ref 1]) (rest := []) (c_X5_copyFrom_213_1 μ hR hB) cal_X5_copyFrom lk2_25 (by decide +kernel) rfl (by decide +kernel) rfl rfl rfl rfl (Nat.le_of_ble_eq_true rfl) (by decide) (by decide) (fun _ _ h9 => h9.elim) ?_
  rintro _ μ1 ⟨rfl, x1, f1, r1⟩
  show pm_V _ _ _ _ 13 _ [] _
  refine pm_bl [(.aload_n 0, 1, 0, 0, 0), (.aload_n 0, 1, 0, 0, 0), (.getfield 15, 3, 2, 1, 0)] (pc1 := 18) (lo1 := [some (.ref 45), some (.ref 1)]) (st1 := [.int (μ1.1 45 1), .ref 45]) (μ1 := μ1) (vc := True) rfl (by decide +kernel) rfl trivial ?_
  rw [show μ1.1 45 1 = nI 3 from by rw [f1 _ (by omega), hn]]
  refine pm_bl [(.bipush 7, 2, 0, 0, 7)] (pc1 := 20) (lo1 := [some (.ref 45), some (.ref 1)]) (st1 := [.int 7, .int (nI 3), .ref 45]) (μ1 := μ1) (vc := True) rfl (by decide +kernel) rfl trivial ?_
  refine pm_icmp_ne (off := 7) 27 (by decide +kernel) (by decide) (fun (h20 : ¬ (nI 3) = 7) => ?_) (fun (h9 : (nI 3) = 7) => absurd h9 (by decide))
  refine pm_bl [(.aload_n 0, 1, 0, 0, 0), (.getfield 15, 3, 2, 1, 0)] (pc1 := 31) (lo1 := [some (.ref 45), some (.ref 1)]) (st1 := [.int (μ1.1 45 1), .ref 45]) (μ1 := μ1) (vc := True) rfl (by decide +kernel) rfl trivial ?_
  rw [show μ1.1 45 1 = nI 3 from by rw [f1 _ (by omega), hn]]
  refine pm_bl [(.iconst 1, 1, 0, 0, 1), (.iadd, 1, 0, 0, 0), (.putfield 15, 3, 2, 1, 0), (.aload_n 0, 1, 0, 0, 0), (.aload_n 0, 1, 0, 0, 0), (.getfield 9, 3, 2, 0, 0)] (pc1 := 41) (lo1 := [some (.ref 45), some (.ref 1)]) (st1 := [.int ((pm_set μ1 45 1 ((nI 3) + 1)).1 45 0), .ref 45]) (μ1 := pm_set μ1 45 1 ((nI 3) + 1)) (vc := True) rfl (by decide +kernel) rfl trivial ?_
  rw [show (pm_set μ1 45 1 ((nI 3) + 1)).1 45 0 = μ1.1 45 0 from by simp [pm_set]]
  rw [show μ1.1 45 0 = nI c from by rw [f1 _ (by omega), hcc]]
  refine pm_bl [(.iconst 1, 1, 0, 0, 1), (.iadd, 1, 0, 0, 0), (.bipush 8, 2, 0, 0, 8)] (pc1 := 45) (lo1 := [some (.ref 45), some (.ref 1)]) (st1 := [.int 8, .int ((nI c) + 1), .ref 45]) (μ1 := pm_set μ1 45 1 ((nI 3) + 1)) (vc := True) rfl (by decide +kernel) rfl trivial ?_
  refine pm_min lkM2_29 (by decide +kernel) (by decide) (Nat.le_of_ble_eq_true rfl) ?_
  rw [lr_min8 hc]
  refine pm_bl [(.putfield 9, 3, 2, 0, 0)] (pc1 := 51) (lo1 := [some (.ref 45), some (.ref 1)]) (st1 := []) (μ1 := pm_set (pm_set μ1 45 1 ((nI 3) + 1)) 45 0 (nI (min (c + 1) 8))) (vc := True) rfl (by decide +kernel) rfl trivial ?_
  exact pm_vret rfl (by decide) (by decide) (by decide +kernel) (⟨rfl, x1, fun i h1 h2 => by rw [pm_set_off h1, pm_set_off h1]; exact f1 i h2, ⟨by rw [pm_set_off (by omega), pm_set_off (by omega)]; exact r1.1, lr_Rh.st r1.2.1 hm1 (fun k h1 h2 => by rw [pm_set_off (by omega), pm_set_off (by omega)]) (fun _ _ _ => rfl), lr_Rp.st r1.2.2.1 hm3 (fun k h1 h2 => by rw [pm_set_off (by omega), pm_set_off (by omega)]) (fun _ _ _ => rfl), lr_Rw.st r1.2.2.2.1 hm2 (fun k h1 h2 => by rw [pm_set_off (by omega), pm_set_off (by omega)]) (fun _ _ _ => rfl), lr_Rr.st r1.2.2.2.2.1 hm4 (fun k h1 h2 => by rw [pm_set_off (by omega), pm_set_off (by omega)]) (fun _ _ _ => rfl), lr_Ra.st r1.2.2.2.2.2.1 hm5 (fun k h1 h2 => by rw [pm_set_off (by omega), pm_set_off (by omega)]) (fun _ _ _ => rfl), lr_Rl.st r1.2.2.2.2.2.2 hm6 (fun k h1 h2 => by rw [pm_set_off (by omega), pm_set_off (by omega)]) rfl (fun _ _ _ => rfl)⟩, pm_set_hit, by rw [pm_set_miss (Or.inr (by decide)), pm_set_hit]; first | rfl | exact nI_1 3⟩)
set_option maxHeartbeats 4000000 in
set_option maxRecDepth 100000 in
theorem c_X2_takeBack_3 {g : Nat → Int32} {c : Nat} (μ : pm_Mm) (hR : lr_Rel μ.1 174 g) (hB : lr_B g) (hn : μ.1 45 1 = nI 3) (hcc : μ.1 45 0 = nI (c + 1)) : pm_CT mi_X2_takeBack [.ref 45, .ref 1] μ (fun v μ2 => v = none ∧ μ2.2 = μ.2 ∧ (∀ i, i ≠ 45 → (i < 1 ∨ 39 < i) → μ2.1 i = μ.1 i) ∧ lr_Rel μ2.1 1 g ∧ μ2.1 45 0 = nI c ∧ μ2.1 45 1 = nI 2) pm_NX := by
  refine pm_CT_of (lo := [some (.ref 45), some (.ref 1)]) (by decide +kernel) rfl rfl (by intro v hv; simp at hv; rcases hv with rfl | rfl <;> rfl) (Nat.le_of_ble_eq_true rfl) rfl ?_
  obtain ⟨hm1, hm3, hm2, hm4, hm5, hm6⟩ := id hB
  have hR0 : lr_Rel (pm_set μ 45 1 (nI 3 - 1)).1 174 g := ⟨by rw [pm_set_off (by omega)]; exact hR.1, lr_Rh.st hR.2.1 hm1 (fun k h1 h2 => by rw [pm_set_off (by omega)]) (fun _ _ _ => rfl), lr_Rp.st hR.2.2.1 hm3 (fun k h1 h2 => by rw [pm_set_off (by omega)]) (fun _ _ _ => rfl), lr_Rw.st hR.2.2.2.1 hm2 (fun k h1 h2 => by rw [pm_set_off (by omega)]) (fun _ _ _ => rfl), lr_Rr.st hR.2.2.2.2.1 hm4 (fun k h1 h2 => by rw [pm_set_off (by omega)]) (fun _ _ _ => rfl), lr_Ra.st hR.2.2.2.2.2.1 hm5 (fun k h1 h2 => by rw [pm_set_off (by omega)]) (fun _ _ _ => rfl), lr_Rl.st hR.2.2.2.2.2.2 hm6 (fun k h1 h2 => by rw [pm_set_off (by omega)]) rfl (fun _ _ _ => rfl)⟩
  refine pm_bl [(.aload_n 0, 1, 0, 0, 0), (.aload_n 0, 1, 0, 0, 0), (.getfield 15, 3, 2, 1, 0)] (pc1 := 5) (lo1 := [some (.ref 45), some (.ref 1)]) (st1 := [.int (μ.1 45 1), .ref 45]) (μ1 := μ) (vc := True) rfl (by decide +kernel) rfl trivial ?_
  rw [hn]
  refine pm_if_ne (off := 8) 13 (by decide +kernel) (by decide) (fun (h5 : ¬ (nI 3) = 0) => ?_) (fun (h9 : (nI 3) = 0) => absurd h9 (by decide))
  refine pm_bl [(.aload_n 0, 1, 0, 0, 0), (.getfield 15, 3, 2, 1, 0)] (pc1 := 17) (lo1 := [some (.ref 45), some (.ref 1)]) (st1 := [.int (μ.1 45 1), .ref 45]) (μ1 := μ) (vc := True) rfl (by decide +kernel) rfl trivial ?_
  rw [hn]
  refine pm_bl [(.iconst 1, 1, 0, 0, 1), (.isub, 1, 0, 0, 0), (.putfield 15, 3, 2, 1, 0), (.aload_n 1, 1, 1, 0, 0), (.aload_n 0, 1, 0, 0, 0), (.getfield 20, 3, 2, 2, 0), (.aload_n 0, 1, 0, 0, 0), (.getfield 15, 3, 2, 1, 0)] (pc1 := 31) (lo1 := [some (.ref 45), some (.ref 1)]) (st1 := [.int ((pm_set μ 45 1 ((nI 3) - 1)).1 45 1), .ref 46, .ref 1]) (μ1 := pm_set μ 45 1 ((nI 3) - 1)) (vc := True) rfl (by decide +kernel) rfl trivial ?_
  rw [show (pm_set μ 45 1 ((nI 3) - 1)).1 45 1 = (nI 3) - 1 from by simp [pm_set]]
  refine pm_aald (r := 46) (n := 8) (j := (nI 3 - 1)) rfl (by rw [show (nI 3 - 1) = nI 2 from by decide]; exact vp_in_nI (by omega) (by omega)) (by decide +kernel) ?_
  rw [show ((nI 3 - 1)).toNatClampNeg = 2 from by decide]
  show pm_V _ _ _ _ 32 _ [.ref 174, .ref 1] _
  refine pm_callV2 mi_X5_copyFrom (ix := 25) (b := 1) (ci := 5) (kc2 := 0) (ks2 := 0) (As := [.ref 174]) (rest := []) (c_X5_copyFrom_1_174 (pm_set μ 45 1 ((nI 3) - 1)) hR0 hB) cal_X5_copyFrom lk2_25 (by decide +kernel) rfl (by decide +kernel) rfl rfl rfl rfl (Nat.le_of_ble_eq_true rfl) (by decide) (by decide) (fun _ _ h9 => h9.elim) ?_
  rintro _ μ1 ⟨rfl, x1, f1, r1⟩
  show pm_V _ _ _ _ 35 _ [] _
  refine pm_bl [(.aload_n 0, 1, 0, 0, 0), (.dup, 1, 0, 0, 0), (.getfield 9, 3, 2, 0, 0)] (pc1 := 40) (lo1 := [some (.ref 45), some (.ref 1)]) (st1 := [.int (μ1.1 45 0), .ref 45]) (μ1 := μ1) (vc := True) rfl (by decide +kernel) rfl trivial ?_
  rw [show μ1.1 45 0 = nI (c + 1) from by rw [f1 _ (by omega), pm_set_miss (Or.inr (by decide)), hcc]]
  refine pm_bl [(.iconst 1, 1, 0, 0, 1), (.isub, 1, 0, 0, 0), (.putfield 9, 3, 2, 0, 0)] (pc1 := 45) (lo1 := [some (.ref 45), some (.ref 1)]) (st1 := []) (μ1 := pm_set μ1 45 0 ((nI (c + 1)) - 1)) (vc := True) rfl (by decide +kernel) rfl trivial ?_
  exact pm_vret rfl (by decide) (by decide) (by decide +kernel) (⟨rfl, x1, fun i h1 h2 => by rw [pm_set_off h1, f1 i h2, pm_set_off h1], ⟨by rw [pm_set_off (by omega)]; exact r1.1, lr_Rh.st r1.2.1 hm1 (fun k h1 h2 => by rw [pm_set_off (by omega)]) (fun _ _ _ => rfl), lr_Rp.st r1.2.2.1 hm3 (fun k h1 h2 => by rw [pm_set_off (by omega)]) (fun _ _ _ => rfl), lr_Rw.st r1.2.2.2.1 hm2 (fun k h1 h2 => by rw [pm_set_off (by omega)]) (fun _ _ _ => rfl), lr_Rr.st r1.2.2.2.2.1 hm4 (fun k h1 h2 => by rw [pm_set_off (by omega)]) (fun _ _ _ => rfl), lr_Ra.st r1.2.2.2.2.2.1 hm5 (fun k h1 h2 => by rw [pm_set_off (by omega)]) (fun _ _ _ => rfl), lr_Rl.st r1.2.2.2.2.2.2 hm6 (fun k h1 h2 => by rw [pm_set_off (by omega)]) rfl (fun _ _ _ => rfl)⟩, by rw [pm_set_hit, nI_pred], by rw [pm_set_miss (Or.inr (by decide)), f1 _ (by omega), pm_set_hit]; first | rfl | decide⟩)
set_option maxHeartbeats 4000000 in
set_option maxRecDepth 100000 in
theorem c_X2_keep_4 {g : Nat → Int32} {c : Nat} (μ : pm_Mm) (hR : lr_Rel μ.1 1 g) (hB : lr_B g) (hn : μ.1 45 1 = nI 4) (hcc : μ.1 45 0 = nI c) (hc : c ≤ 8) : pm_CT mi_X2_keep [.ref 45, .ref 1] μ (fun v μ2 => v = none ∧ μ2.2 = μ.2 ∧ (∀ i, i ≠ 45 → (i < 252 ∨ 290 < i) → μ2.1 i = μ.1 i) ∧ lr_Rel μ2.1 252 g ∧ μ2.1 45 0 = nI (min (c + 1) 8) ∧ μ2.1 45 1 = nI 5) pm_NX := by
  refine pm_CT_of (lo := [some (.ref 45), some (.ref 1)]) (by decide +kernel) rfl rfl (by intro v hv; simp at hv; rcases hv with rfl | rfl <;> rfl) (Nat.le_of_ble_eq_true rfl) rfl ?_
  obtain ⟨hm1, hm3, hm2, hm4, hm5, hm6⟩ := id hB
  refine pm_bl [(.aload_n 0, 1, 0, 0, 0), (.getfield 20, 3, 2, 2, 0), (.aload_n 0, 1, 0, 0, 0), (.getfield 15, 3, 2, 1, 0)] (pc1 := 8) (lo1 := [some (.ref 45), some (.ref 1)]) (st1 := [.int (μ.1 45 1), .ref 46]) (μ1 := μ) (vc := True) rfl (by decide +kernel) rfl trivial ?_
  rw [hn]
  refine pm_aald (r := 46) (n := 8) (j := nI 4) rfl (vp_in_nI (by omega) (by omega)) (by decide +kernel) ?_
  rw [nI_clamp (n := 4) (by omega)]
  show pm_V _ _ _ _ 9 _ [.ref 252] _
  refine pm_bl [(.aload_n 1, 1, 1, 0, 0)] (pc1 := 10) (lo1 := [some (.ref 45), some (.ref 1)]) (st1 := [.ref 1, .ref 252]) (μ1 := μ) (vc := True) rfl (by decide +kernel) rfl trivial ?_
  refine pm_callV2 mi_X5_copyFrom (ix := 25) (b := 252) (ci := 5) (kc2 := 0) (ks2 := 0) (As := [.ref 1]) (rest := []) (c_X5_copyFrom_252_1 μ hR hB) cal_X5_copyFrom lk2_25 (by decide +kernel) rfl (by decide +kernel) rfl rfl rfl rfl (Nat.le_of_ble_eq_true rfl) (by decide) (by decide) (fun _ _ h9 => h9.elim) ?_
  rintro _ μ1 ⟨rfl, x1, f1, r1⟩
  show pm_V _ _ _ _ 13 _ [] _
  refine pm_bl [(.aload_n 0, 1, 0, 0, 0), (.aload_n 0, 1, 0, 0, 0), (.getfield 15, 3, 2, 1, 0)] (pc1 := 18) (lo1 := [some (.ref 45), some (.ref 1)]) (st1 := [.int (μ1.1 45 1), .ref 45]) (μ1 := μ1) (vc := True) rfl (by decide +kernel) rfl trivial ?_
  rw [show μ1.1 45 1 = nI 4 from by rw [f1 _ (by omega), hn]]
  refine pm_bl [(.bipush 7, 2, 0, 0, 7)] (pc1 := 20) (lo1 := [some (.ref 45), some (.ref 1)]) (st1 := [.int 7, .int (nI 4), .ref 45]) (μ1 := μ1) (vc := True) rfl (by decide +kernel) rfl trivial ?_
  refine pm_icmp_ne (off := 7) 27 (by decide +kernel) (by decide) (fun (h20 : ¬ (nI 4) = 7) => ?_) (fun (h9 : (nI 4) = 7) => absurd h9 (by decide))
  refine pm_bl [(.aload_n 0, 1, 0, 0, 0), (.getfield 15, 3, 2, 1, 0)] (pc1 := 31) (lo1 := [some (.ref 45), some (.ref 1)]) (st1 := [.int (μ1.1 45 1), .ref 45]) (μ1 := μ1) (vc := True) rfl (by decide +kernel) rfl trivial ?_
  rw [show μ1.1 45 1 = nI 4 from by rw [f1 _ (by omega), hn]]
  refine pm_bl [(.iconst 1, 1, 0, 0, 1), (.iadd, 1, 0, 0, 0), (.putfield 15, 3, 2, 1, 0), (.aload_n 0, 1, 0, 0, 0), (.aload_n 0, 1, 0, 0, 0), (.getfield 9, 3, 2, 0, 0)] (pc1 := 41) (lo1 := [some (.ref 45), some (.ref 1)]) (st1 := [.int ((pm_set μ1 45 1 ((nI 4) + 1)).1 45 0), .ref 45]) (μ1 := pm_set μ1 45 1 ((nI 4) + 1)) (vc := True) rfl (by decide +kernel) rfl trivial ?_
  rw [show (pm_set μ1 45 1 ((nI 4) + 1)).1 45 0 = μ1.1 45 0 from by simp [pm_set]]
  rw [show μ1.1 45 0 = nI c from by rw [f1 _ (by omega), hcc]]
  refine pm_bl [(.iconst 1, 1, 0, 0, 1), (.iadd, 1, 0, 0, 0), (.bipush 8, 2, 0, 0, 8)] (pc1 := 45) (lo1 := [some (.ref 45), some (.ref 1)]) (st1 := [.int 8, .int ((nI c) + 1), .ref 45]) (μ1 := pm_set μ1 45 1 ((nI 4) + 1)) (vc := True) rfl (by decide +kernel) rfl trivial ?_
  refine pm_min lkM2_29 (by decide +kernel) (by decide) (Nat.le_of_ble_eq_true rfl) ?_
  rw [lr_min8 hc]
  refine pm_bl [(.putfield 9, 3, 2, 0, 0)] (pc1 := 51) (lo1 := [some (.ref 45), some (.ref 1)]) (st1 := []) (μ1 := pm_set (pm_set μ1 45 1 ((nI 4) + 1)) 45 0 (nI (min (c + 1) 8))) (vc := True) rfl (by decide +kernel) rfl trivial ?_
  exact pm_vret rfl (by decide) (by decide) (by decide +kernel) (⟨rfl, x1, fun i h1 h2 => by rw [pm_set_off h1, pm_set_off h1]; exact f1 i h2, ⟨by rw [pm_set_off (by omega), pm_set_off (by omega)]; exact r1.1, lr_Rh.st r1.2.1 hm1 (fun k h1 h2 => by rw [pm_set_off (by omega), pm_set_off (by omega)]) (fun _ _ _ => rfl), lr_Rp.st r1.2.2.1 hm3 (fun k h1 h2 => by rw [pm_set_off (by omega), pm_set_off (by omega)]) (fun _ _ _ => rfl), lr_Rw.st r1.2.2.2.1 hm2 (fun k h1 h2 => by rw [pm_set_off (by omega), pm_set_off (by omega)]) (fun _ _ _ => rfl), lr_Rr.st r1.2.2.2.2.1 hm4 (fun k h1 h2 => by rw [pm_set_off (by omega), pm_set_off (by omega)]) (fun _ _ _ => rfl), lr_Ra.st r1.2.2.2.2.2.1 hm5 (fun k h1 h2 => by rw [pm_set_off (by omega), pm_set_off (by omega)]) (fun _ _ _ => rfl), lr_Rl.st r1.2.2.2.2.2.2 hm6 (fun k h1 h2 => by rw [pm_set_off (by omega), pm_set_off (by omega)]) rfl (fun _ _ _ => rfl)⟩, pm_set_hit, by rw [pm_set_miss (Or.inr (by decide)), pm_set_hit]; first | rfl | exact nI_1 4⟩)
set_option maxHeartbeats 4000000 in
set_option maxRecDepth 100000 in
theorem c_X2_takeBack_4 {g : Nat → Int32} {c : Nat} (μ : pm_Mm) (hR : lr_Rel μ.1 213 g) (hB : lr_B g) (hn : μ.1 45 1 = nI 4) (hcc : μ.1 45 0 = nI (c + 1)) : pm_CT mi_X2_takeBack [.ref 45, .ref 1] μ (fun v μ2 => v = none ∧ μ2.2 = μ.2 ∧ (∀ i, i ≠ 45 → (i < 1 ∨ 39 < i) → μ2.1 i = μ.1 i) ∧ lr_Rel μ2.1 1 g ∧ μ2.1 45 0 = nI c ∧ μ2.1 45 1 = nI 3) pm_NX := by
  refine pm_CT_of (lo := [some (.ref 45), some (.ref 1)]) (by decide +kernel) rfl rfl (by intro v hv; simp at hv; rcases hv with rfl | rfl <;> rfl) (Nat.le_of_ble_eq_true rfl) rfl ?_
  obtain ⟨hm1, hm3, hm2, hm4, hm5, hm6⟩ := id hB
  have hR0 : lr_Rel (pm_set μ 45 1 (nI 4 - 1)).1 213 g := ⟨by rw [pm_set_off (by omega)]; exact hR.1, lr_Rh.st hR.2.1 hm1 (fun k h1 h2 => by rw [pm_set_off (by omega)]) (fun _ _ _ => rfl), lr_Rp.st hR.2.2.1 hm3 (fun k h1 h2 => by rw [pm_set_off (by omega)]) (fun _ _ _ => rfl), lr_Rw.st hR.2.2.2.1 hm2 (fun k h1 h2 => by rw [pm_set_off (by omega)]) (fun _ _ _ => rfl), lr_Rr.st hR.2.2.2.2.1 hm4 (fun k h1 h2 => by rw [pm_set_off (by omega)]) (fun _ _ _ => rfl), lr_Ra.st hR.2.2.2.2.2.1 hm5 (fun k h1 h2 => by rw [pm_set_off (by omega)]) (fun _ _ _ => rfl), lr_Rl.st hR.2.2.2.2.2.2 hm6 (fun k h1 h2 => by rw [pm_set_off (by omega)]) rfl (fun _ _ _ => rfl)⟩
  refine pm_bl [(.aload_n 0, 1, 0, 0, 0), (.aload_n 0, 1, 0, 0, 0), (.getfield 15, 3, 2, 1, 0)] (pc1 := 5) (lo1 := [some (.ref 45), some (.ref 1)]) (st1 := [.int (μ.1 45 1), .ref 45]) (μ1 := μ) (vc := True) rfl (by decide +kernel) rfl trivial ?_
  rw [hn]
  refine pm_if_ne (off := 8) 13 (by decide +kernel) (by decide) (fun (h5 : ¬ (nI 4) = 0) => ?_) (fun (h9 : (nI 4) = 0) => absurd h9 (by decide))
  refine pm_bl [(.aload_n 0, 1, 0, 0, 0), (.getfield 15, 3, 2, 1, 0)] (pc1 := 17) (lo1 := [some (.ref 45), some (.ref 1)]) (st1 := [.int (μ.1 45 1), .ref 45]) (μ1 := μ) (vc := True) rfl (by decide +kernel) rfl trivial ?_
  rw [hn]
  refine pm_bl [(.iconst 1, 1, 0, 0, 1), (.isub, 1, 0, 0, 0), (.putfield 15, 3, 2, 1, 0), (.aload_n 1, 1, 1, 0, 0), (.aload_n 0, 1, 0, 0, 0), (.getfield 20, 3, 2, 2, 0), (.aload_n 0, 1, 0, 0, 0), (.getfield 15, 3, 2, 1, 0)] (pc1 := 31) (lo1 := [some (.ref 45), some (.ref 1)]) (st1 := [.int ((pm_set μ 45 1 ((nI 4) - 1)).1 45 1), .ref 46, .ref 1]) (μ1 := pm_set μ 45 1 ((nI 4) - 1)) (vc := True) rfl (by decide +kernel) rfl trivial ?_
  rw [show (pm_set μ 45 1 ((nI 4) - 1)).1 45 1 = (nI 4) - 1 from by simp [pm_set]]
  refine pm_aald (r := 46) (n := 8) (j := (nI 4 - 1)) rfl (by rw [show (nI 4 - 1) = nI 3 from by decide]; exact vp_in_nI (by omega) (by omega)) (by decide +kernel) ?_
  rw [show ((nI 4 - 1)).toNatClampNeg = 3 from by decide]
  show pm_V _ _ _ _ 32 _ [.ref 213, .ref 1] _
  refine pm_callV2 mi_X5_copyFrom (ix := 25) (b := 1) (ci := 5) (kc2 := 0) (ks2 := 0) (As := [.ref 213]) (rest := []) (c_X5_copyFrom_1_213 (pm_set μ 45 1 ((nI 4) - 1)) hR0 hB) cal_X5_copyFrom lk2_25 (by decide +kernel) rfl (by decide +kernel) rfl rfl rfl rfl (Nat.le_of_ble_eq_true rfl) (by decide) (by decide) (fun _ _ h9 => h9.elim) ?_
  rintro _ μ1 ⟨rfl, x1, f1, r1⟩
  show pm_V _ _ _ _ 35 _ [] _
  refine pm_bl [(.aload_n 0, 1, 0, 0, 0), (.dup, 1, 0, 0, 0), (.getfield 9, 3, 2, 0, 0)] (pc1 := 40) (lo1 := [some (.ref 45), some (.ref 1)]) (st1 := [.int (μ1.1 45 0), .ref 45]) (μ1 := μ1) (vc := True) rfl (by decide +kernel) rfl trivial ?_
  rw [show μ1.1 45 0 = nI (c + 1) from by rw [f1 _ (by omega), pm_set_miss (Or.inr (by decide)), hcc]]
  refine pm_bl [(.iconst 1, 1, 0, 0, 1), (.isub, 1, 0, 0, 0), (.putfield 9, 3, 2, 0, 0)] (pc1 := 45) (lo1 := [some (.ref 45), some (.ref 1)]) (st1 := []) (μ1 := pm_set μ1 45 0 ((nI (c + 1)) - 1)) (vc := True) rfl (by decide +kernel) rfl trivial ?_
  exact pm_vret rfl (by decide) (by decide) (by decide +kernel) (⟨rfl, x1, fun i h1 h2 => by rw [pm_set_off h1, f1 i h2, pm_set_off h1], ⟨by rw [pm_set_off (by omega)]; exact r1.1, lr_Rh.st r1.2.1 hm1 (fun k h1 h2 => by rw [pm_set_off (by omega)]) (fun _ _ _ => rfl), lr_Rp.st r1.2.2.1 hm3 (fun k h1 h2 => by rw [pm_set_off (by omega)]) (fun _ _ _ => rfl), lr_Rw.st r1.2.2.2.1 hm2 (fun k h1 h2 => by rw [pm_set_off (by omega)]) (fun _ _ _ => rfl), lr_Rr.st r1.2.2.2.2.1 hm4 (fun k h1 h2 => by rw [pm_set_off (by omega)]) (fun _ _ _ => rfl), lr_Ra.st r1.2.2.2.2.2.1 hm5 (fun k h1 h2 => by rw [pm_set_off (by omega)]) (fun _ _ _ => rfl), lr_Rl.st r1.2.2.2.2.2.2 hm6 (fun k h1 h2 => by rw [pm_set_off (by omega)]) rfl (fun _ _ _ => rfl)⟩, by rw [pm_set_hit, nI_pred], by rw [pm_set_miss (Or.inr (by decide)), f1 _ (by omega), pm_set_hit]; first | rfl | decide⟩)
set_option maxHeartbeats 4000000 in
set_option maxRecDepth 100000 in
theorem c_X2_keep_5 {g : Nat → Int32} {c : Nat} (μ : pm_Mm) (hR : lr_Rel μ.1 1 g) (hB : lr_B g) (hn : μ.1 45 1 = nI 5) (hcc : μ.1 45 0 = nI c) (hc : c ≤ 8) : pm_CT mi_X2_keep [.ref 45, .ref 1] μ (fun v μ2 => v = none ∧ μ2.2 = μ.2 ∧ (∀ i, i ≠ 45 → (i < 291 ∨ 329 < i) → μ2.1 i = μ.1 i) ∧ lr_Rel μ2.1 291 g ∧ μ2.1 45 0 = nI (min (c + 1) 8) ∧ μ2.1 45 1 = nI 6) pm_NX := by
  refine pm_CT_of (lo := [some (.ref 45), some (.ref 1)]) (by decide +kernel) rfl rfl (by intro v hv; simp at hv; rcases hv with rfl | rfl <;> rfl) (Nat.le_of_ble_eq_true rfl) rfl ?_
  obtain ⟨hm1, hm3, hm2, hm4, hm5, hm6⟩ := id hB
  refine pm_bl [(.aload_n 0, 1, 0, 0, 0), (.getfield 20, 3, 2, 2, 0), (.aload_n 0, 1, 0, 0, 0), (.getfield 15, 3, 2, 1, 0)] (pc1 := 8) (lo1 := [some (.ref 45), some (.ref 1)]) (st1 := [.int (μ.1 45 1), .ref 46]) (μ1 := μ) (vc := True) rfl (by decide +kernel) rfl trivial ?_
  rw [hn]
  refine pm_aald (r := 46) (n := 8) (j := nI 5) rfl (vp_in_nI (by omega) (by omega)) (by decide +kernel) ?_
  rw [nI_clamp (n := 5) (by omega)]
  show pm_V _ _ _ _ 9 _ [.ref 291] _
  refine pm_bl [(.aload_n 1, 1, 1, 0, 0)] (pc1 := 10) (lo1 := [some (.ref 45), some (.ref 1)]) (st1 := [.ref 1, .ref 291]) (μ1 := μ) (vc := True) rfl (by decide +kernel) rfl trivial ?_
  refine pm_callV2 mi_X5_copyFrom (ix := 25) (b := 291) (ci := 5) (kc2 := 0) (ks2 := 0) (As := [.ref 1]) (rest := []) (c_X5_copyFrom_291_1 μ hR hB) cal_X5_copyFrom lk2_25 (by decide +kernel) rfl (by decide +kernel) rfl rfl rfl rfl (Nat.le_of_ble_eq_true rfl) (by decide) (by decide) (fun _ _ h9 => h9.elim) ?_
  rintro _ μ1 ⟨rfl, x1, f1, r1⟩
  show pm_V _ _ _ _ 13 _ [] _
  refine pm_bl [(.aload_n 0, 1, 0, 0, 0), (.aload_n 0, 1, 0, 0, 0), (.getfield 15, 3, 2, 1, 0)] (pc1 := 18) (lo1 := [some (.ref 45), some (.ref 1)]) (st1 := [.int (μ1.1 45 1), .ref 45]) (μ1 := μ1) (vc := True) rfl (by decide +kernel) rfl trivial ?_
  rw [show μ1.1 45 1 = nI 5 from by rw [f1 _ (by omega), hn]]
  refine pm_bl [(.bipush 7, 2, 0, 0, 7)] (pc1 := 20) (lo1 := [some (.ref 45), some (.ref 1)]) (st1 := [.int 7, .int (nI 5), .ref 45]) (μ1 := μ1) (vc := True) rfl (by decide +kernel) rfl trivial ?_
  refine pm_icmp_ne (off := 7) 27 (by decide +kernel) (by decide) (fun (h20 : ¬ (nI 5) = 7) => ?_) (fun (h9 : (nI 5) = 7) => absurd h9 (by decide))
  refine pm_bl [(.aload_n 0, 1, 0, 0, 0), (.getfield 15, 3, 2, 1, 0)] (pc1 := 31) (lo1 := [some (.ref 45), some (.ref 1)]) (st1 := [.int (μ1.1 45 1), .ref 45]) (μ1 := μ1) (vc := True) rfl (by decide +kernel) rfl trivial ?_
  rw [show μ1.1 45 1 = nI 5 from by rw [f1 _ (by omega), hn]]
  refine pm_bl [(.iconst 1, 1, 0, 0, 1), (.iadd, 1, 0, 0, 0), (.putfield 15, 3, 2, 1, 0), (.aload_n 0, 1, 0, 0, 0), (.aload_n 0, 1, 0, 0, 0), (.getfield 9, 3, 2, 0, 0)] (pc1 := 41) (lo1 := [some (.ref 45), some (.ref 1)]) (st1 := [.int ((pm_set μ1 45 1 ((nI 5) + 1)).1 45 0), .ref 45]) (μ1 := pm_set μ1 45 1 ((nI 5) + 1)) (vc := True) rfl (by decide +kernel) rfl trivial ?_
  rw [show (pm_set μ1 45 1 ((nI 5) + 1)).1 45 0 = μ1.1 45 0 from by simp [pm_set]]
  rw [show μ1.1 45 0 = nI c from by rw [f1 _ (by omega), hcc]]
  refine pm_bl [(.iconst 1, 1, 0, 0, 1), (.iadd, 1, 0, 0, 0), (.bipush 8, 2, 0, 0, 8)] (pc1 := 45) (lo1 := [some (.ref 45), some (.ref 1)]) (st1 := [.int 8, .int ((nI c) + 1), .ref 45]) (μ1 := pm_set μ1 45 1 ((nI 5) + 1)) (vc := True) rfl (by decide +kernel) rfl trivial ?_
  refine pm_min lkM2_29 (by decide +kernel) (by decide) (Nat.le_of_ble_eq_true rfl) ?_
  rw [lr_min8 hc]
  refine pm_bl [(.putfield 9, 3, 2, 0, 0)] (pc1 := 51) (lo1 := [some (.ref 45), some (.ref 1)]) (st1 := []) (μ1 := pm_set (pm_set μ1 45 1 ((nI 5) + 1)) 45 0 (nI (min (c + 1) 8))) (vc := True) rfl (by decide +kernel) rfl trivial ?_
  exact pm_vret rfl (by decide) (by decide) (by decide +kernel) (⟨rfl, x1, fun i h1 h2 => by rw [pm_set_off h1, pm_set_off h1]; exact f1 i h2, ⟨by rw [pm_set_off (by omega), pm_set_off (by omega)]; exact r1.1, lr_Rh.st r1.2.1 hm1 (fun k h1 h2 => by rw [pm_set_off (by omega), pm_set_off (by omega)]) (fun _ _ _ => rfl), lr_Rp.st r1.2.2.1 hm3 (fun k h1 h2 => by rw [pm_set_off (by omega), pm_set_off (by omega)]) (fun _ _ _ => rfl), lr_Rw.st r1.2.2.2.1 hm2 (fun k h1 h2 => by rw [pm_set_off (by omega), pm_set_off (by omega)]) (fun _ _ _ => rfl), lr_Rr.st r1.2.2.2.2.1 hm4 (fun k h1 h2 => by rw [pm_set_off (by omega), pm_set_off (by omega)]) (fun _ _ _ => rfl), lr_Ra.st r1.2.2.2.2.2.1 hm5 (fun k h1 h2 => by rw [pm_set_off (by omega), pm_set_off (by omega)]) (fun _ _ _ => rfl), lr_Rl.st r1.2.2.2.2.2.2 hm6 (fun k h1 h2 => by rw [pm_set_off (by omega), pm_set_off (by omega)]) rfl (fun _ _ _ => rfl)⟩, pm_set_hit, by rw [pm_set_miss (Or.inr (by decide)), pm_set_hit]; first | rfl | exact nI_1 5⟩)
set_option maxHeartbeats 4000000 in
set_option maxRecDepth 100000 in
theorem c_X2_takeBack_5 {g : Nat → Int32} {c : Nat} (μ : pm_Mm) (hR : lr_Rel μ.1 252 g) (hB : lr_B g) (hn : μ.1 45 1 = nI 5) (hcc : μ.1 45 0 = nI (c + 1)) : pm_CT mi_X2_takeBack [.ref 45, .ref 1] μ (fun v μ2 => v = none ∧ μ2.2 = μ.2 ∧ (∀ i, i ≠ 45 → (i < 1 ∨ 39 < i) → μ2.1 i = μ.1 i) ∧ lr_Rel μ2.1 1 g ∧ μ2.1 45 0 = nI c ∧ μ2.1 45 1 = nI 4) pm_NX := by
  refine pm_CT_of (lo := [some (.ref 45), some (.ref 1)]) (by decide +kernel) rfl rfl (by intro v hv; simp at hv; rcases hv with rfl | rfl <;> rfl) (Nat.le_of_ble_eq_true rfl) rfl ?_
  obtain ⟨hm1, hm3, hm2, hm4, hm5, hm6⟩ := id hB
  have hR0 : lr_Rel (pm_set μ 45 1 (nI 5 - 1)).1 252 g := ⟨by rw [pm_set_off (by omega)]; exact hR.1, lr_Rh.st hR.2.1 hm1 (fun k h1 h2 => by rw [pm_set_off (by omega)]) (fun _ _ _ => rfl), lr_Rp.st hR.2.2.1 hm3 (fun k h1 h2 => by rw [pm_set_off (by omega)]) (fun _ _ _ => rfl), lr_Rw.st hR.2.2.2.1 hm2 (fun k h1 h2 => by rw [pm_set_off (by omega)]) (fun _ _ _ => rfl), lr_Rr.st hR.2.2.2.2.1 hm4 (fun k h1 h2 => by rw [pm_set_off (by omega)]) (fun _ _ _ => rfl), lr_Ra.st hR.2.2.2.2.2.1 hm5 (fun k h1 h2 => by rw [pm_set_off (by omega)]) (fun _ _ _ => rfl), lr_Rl.st hR.2.2.2.2.2.2 hm6 (fun k h1 h2 => by rw [pm_set_off (by omega)]) rfl (fun _ _ _ => rfl)⟩
  refine pm_bl [(.aload_n 0, 1, 0, 0, 0), (.aload_n 0, 1, 0, 0, 0), (.getfield 15, 3, 2, 1, 0)] (pc1 := 5) (lo1 := [some (.ref 45), some (.ref 1)]) (st1 := [.int (μ.1 45 1), .ref 45]) (μ1 := μ) (vc := True) rfl (by decide +kernel) rfl trivial ?_
  rw [hn]
  refine pm_if_ne (off := 8) 13 (by decide +kernel) (by decide) (fun (h5 : ¬ (nI 5) = 0) => ?_) (fun (h9 : (nI 5) = 0) => absurd h9 (by decide))
  refine pm_bl [(.aload_n 0, 1, 0, 0, 0), (.getfield 15, 3, 2, 1, 0)] (pc1 := 17) (lo1 := [some (.ref 45), some (.ref 1)]) (st1 := [.int (μ.1 45 1), .ref 45]) (μ1 := μ) (vc := True) rfl (by decide +kernel) rfl trivial ?_
  rw [hn]
  refine pm_bl [(.iconst 1, 1, 0, 0, 1), (.isub, 1, 0, 0, 0), (.putfield 15, 3, 2, 1, 0), (.aload_n 1, 1, 1, 0, 0), (.aload_n 0, 1, 0, 0, 0), (.getfield 20, 3, 2, 2, 0), (.aload_n 0, 1, 0, 0, 0), (.getfield 15, 3, 2, 1, 0)] (pc1 := 31) (lo1 := [some (.ref 45), some (.ref 1)]) (st1 := [.int ((pm_set μ 45 1 ((nI 5) - 1)).1 45 1), .ref 46, .ref 1]) (μ1 := pm_set μ 45 1 ((nI 5) - 1)) (vc := True) rfl (by decide +kernel) rfl trivial ?_
  rw [show (pm_set μ 45 1 ((nI 5) - 1)).1 45 1 = (nI 5) - 1 from by simp [pm_set]]
  refine pm_aald (r := 46) (n := 8) (j := (nI 5 - 1)) rfl (by rw [show (nI 5 - 1) = nI 4 from by decide]; exact vp_in_nI (by omega) (by omega)) (by decide +kernel) ?_
  rw [show ((nI 5 - 1)).toNatClampNeg = 4 from by decide]
  show pm_V _ _ _ _ 32 _ [.ref 252, .ref 1] _
  refine pm_callV2 mi_X5_copyFrom (ix := 25) (b := 1) (ci := 5) (kc2 := 0) (ks2 := 0) (As := [.ref 252]) (rest := []) (c_X5_copyFrom_1_252 (pm_set μ 45 1 ((nI 5) - 1)) hR0 hB) cal_X5_copyFrom lk2_25 (by decide +kernel) rfl (by decide +kernel) rfl rfl rfl rfl (Nat.le_of_ble_eq_true rfl) (by decide) (by decide) (fun _ _ h9 => h9.elim) ?_
  rintro _ μ1 ⟨rfl, x1, f1, r1⟩
  show pm_V _ _ _ _ 35 _ [] _
  refine pm_bl [(.aload_n 0, 1, 0, 0, 0), (.dup, 1, 0, 0, 0), (.getfield 9, 3, 2, 0, 0)] (pc1 := 40) (lo1 := [some (.ref 45), some (.ref 1)]) (st1 := [.int (μ1.1 45 0), .ref 45]) (μ1 := μ1) (vc := True) rfl (by decide +kernel) rfl trivial ?_
  rw [show μ1.1 45 0 = nI (c + 1) from by rw [f1 _ (by omega), pm_set_miss (Or.inr (by decide)), hcc]]
  refine pm_bl [(.iconst 1, 1, 0, 0, 1), (.isub, 1, 0, 0, 0), (.putfield 9, 3, 2, 0, 0)] (pc1 := 45) (lo1 := [some (.ref 45), some (.ref 1)]) (st1 := []) (μ1 := pm_set μ1 45 0 ((nI (c + 1)) - 1)) (vc := True) rfl (by decide +kernel) rfl trivial ?_
  exact pm_vret rfl (by decide) (by decide) (by decide +kernel) (⟨rfl, x1, fun i h1 h2 => by rw [pm_set_off h1, f1 i h2, pm_set_off h1], ⟨by rw [pm_set_off (by omega)]; exact r1.1, lr_Rh.st r1.2.1 hm1 (fun k h1 h2 => by rw [pm_set_off (by omega)]) (fun _ _ _ => rfl), lr_Rp.st r1.2.2.1 hm3 (fun k h1 h2 => by rw [pm_set_off (by omega)]) (fun _ _ _ => rfl), lr_Rw.st r1.2.2.2.1 hm2 (fun k h1 h2 => by rw [pm_set_off (by omega)]) (fun _ _ _ => rfl), lr_Rr.st r1.2.2.2.2.1 hm4 (fun k h1 h2 => by rw [pm_set_off (by omega)]) (fun _ _ _ => rfl), lr_Ra.st r1.2.2.2.2.2.1 hm5 (fun k h1 h2 => by rw [pm_set_off (by omega)]) (fun _ _ _ => rfl), lr_Rl.st r1.2.2.2.2.2.2 hm6 (fun k h1 h2 => by rw [pm_set_off (by omega)]) rfl (fun _ _ _ => rfl)⟩, by rw [pm_set_hit, nI_pred], by rw [pm_set_miss (Or.inr (by decide)), f1 _ (by omega), pm_set_hit]; first | rfl | decide⟩)
set_option maxHeartbeats 4000000 in
set_option maxRecDepth 100000 in
theorem c_X2_keep_6 {g : Nat → Int32} {c : Nat} (μ : pm_Mm) (hR : lr_Rel μ.1 1 g) (hB : lr_B g) (hn : μ.1 45 1 = nI 6) (hcc : μ.1 45 0 = nI c) (hc : c ≤ 8) : pm_CT mi_X2_keep [.ref 45, .ref 1] μ (fun v μ2 => v = none ∧ μ2.2 = μ.2 ∧ (∀ i, i ≠ 45 → (i < 330 ∨ 368 < i) → μ2.1 i = μ.1 i) ∧ lr_Rel μ2.1 330 g ∧ μ2.1 45 0 = nI (min (c + 1) 8) ∧ μ2.1 45 1 = nI 7) pm_NX := by
  refine pm_CT_of (lo := [some (.ref 45), some (.ref 1)]) (by decide +kernel) rfl rfl (by intro v hv; simp at hv; rcases hv with rfl | rfl <;> rfl) (Nat.le_of_ble_eq_true rfl) rfl ?_
  obtain ⟨hm1, hm3, hm2, hm4, hm5, hm6⟩ := id hB
  refine pm_bl [(.aload_n 0, 1, 0, 0, 0), (.getfield 20, 3, 2, 2, 0), (.aload_n 0, 1, 0, 0, 0), (.getfield 15, 3, 2, 1, 0)] (pc1 := 8) (lo1 := [some (.ref 45), some (.ref 1)]) (st1 := [.int (μ.1 45 1), .ref 46]) (μ1 := μ) (vc := True) rfl (by decide +kernel) rfl trivial ?_
  rw [hn]
  refine pm_aald (r := 46) (n := 8) (j := nI 6) rfl (vp_in_nI (by omega) (by omega)) (by decide +kernel) ?_
  rw [nI_clamp (n := 6) (by omega)]
  show pm_V _ _ _ _ 9 _ [.ref 330] _
  refine pm_bl [(.aload_n 1, 1, 1, 0, 0)] (pc1 := 10) (lo1 := [some (.ref 45), some (.ref 1)]) (st1 := [.ref 1, .ref 330]) (μ1 := μ) (vc := True) rfl (by decide +kernel) rfl trivial ?_
  refine pm_callV2 mi_X5_copyFrom (ix := 25) (b := 330) (ci := 5) (kc2 := 0) (ks2 := 0) (As := [.ref 1]) (rest := []) (c_X5_copyFrom_330_1 μ hR hB) cal_X5_copyFrom lk2_25 (by decide +kernel) rfl (by decide +kernel) rfl rfl rfl rfl (Nat.le_of_ble_eq_true rfl) (by decide) (by decide) (fun _ _ h9 => h9.elim) ?_
  rintro _ μ1 ⟨rfl, x1, f1, r1⟩
  show pm_V _ _ _ _ 13 _ [] _
  refine pm_bl [(.aload_n 0, 1, 0, 0, 0), (.aload_n 0, 1, 0, 0, 0), (.getfield 15, 3, 2, 1, 0)] (pc1 := 18) (lo1 := [some (.ref 45), some (.ref 1)]) (st1 := [.int (μ1.1 45 1), .ref 45]) (μ1 := μ1) (vc := True) rfl (by decide +kernel) rfl trivial ?_
  rw [show μ1.1 45 1 = nI 6 from by rw [f1 _ (by omega), hn]]
  refine pm_bl [(.bipush 7, 2, 0, 0, 7)] (pc1 := 20) (lo1 := [some (.ref 45), some (.ref 1)]) (st1 := [.int 7, .int (nI 6), .ref 45]) (μ1 := μ1) (vc := True) rfl (by decide +kernel) rfl trivial ?_
  refine pm_icmp_ne (off := 7) 27 (by decide +kernel) (by decide) (fun (h20 : ¬ (nI 6) = 7) => ?_) (fun (h9 : (nI 6) = 7) => absurd h9 (by decide))
  refine pm_bl [(.aload_n 0, 1, 0, 0, 0), (.getfield 15, 3, 2, 1, 0)] (pc1 := 31) (lo1 := [some (.ref 45), some (.ref 1)]) (st1 := [.int (μ1.1 45 1), .ref 45]) (μ1 := μ1) (vc := True) rfl (by decide +kernel) rfl trivial ?_
  rw [show μ1.1 45 1 = nI 6 from by rw [f1 _ (by omega), hn]]
  refine pm_bl [(.iconst 1, 1, 0, 0, 1), (.iadd, 1, 0, 0, 0), (.putfield 15, 3, 2, 1, 0), (.aload_n 0, 1, 0, 0, 0), (.aload_n 0, 1, 0, 0, 0), (.getfield 9, 3, 2, 0, 0)] (pc1 := 41) (lo1 := [some (.ref 45), some (.ref 1)]) (st1 := [.int ((pm_set μ1 45 1 ((nI 6) + 1)).1 45 0), .ref 45]) (μ1 := pm_set μ1 45 1 ((nI 6) + 1)) (vc := True) rfl (by decide +kernel) rfl trivial ?_
  rw [show (pm_set μ1 45 1 ((nI 6) + 1)).1 45 0 = μ1.1 45 0 from by simp [pm_set]]
  rw [show μ1.1 45 0 = nI c from by rw [f1 _ (by omega), hcc]]
  refine pm_bl [(.iconst 1, 1, 0, 0, 1), (.iadd, 1, 0, 0, 0), (.bipush 8, 2, 0, 0, 8)] (pc1 := 45) (lo1 := [some (.ref 45), some (.ref 1)]) (st1 := [.int 8, .int ((nI c) + 1), .ref 45]) (μ1 := pm_set μ1 45 1 ((nI 6) + 1)) (vc := True) rfl (by decide +kernel) rfl trivial ?_
  refine pm_min lkM2_29 (by decide +kernel) (by decide) (Nat.le_of_ble_eq_true rfl) ?_
  rw [lr_min8 hc]
  refine pm_bl [(.putfield 9, 3, 2, 0, 0)] (pc1 := 51) (lo1 := [some (.ref 45), some (.ref 1)]) (st1 := []) (μ1 := pm_set (pm_set μ1 45 1 ((nI 6) + 1)) 45 0 (nI (min (c + 1) 8))) (vc := True) rfl (by decide +kernel) rfl trivial ?_
  exact pm_vret rfl (by decide) (by decide) (by decide +kernel) (⟨rfl, x1, fun i h1 h2 => by rw [pm_set_off h1, pm_set_off h1]; exact f1 i h2, ⟨by rw [pm_set_off (by omega), pm_set_off (by omega)]; exact r1.1, lr_Rh.st r1.2.1 hm1 (fun k h1 h2 => by rw [pm_set_off (by omega), pm_set_off (by omega)]) (fun _ _ _ => rfl), lr_Rp.st r1.2.2.1 hm3 (fun k h1 h2 => by rw [pm_set_off (by omega), pm_set_off (by omega)]) (fun _ _ _ => rfl), lr_Rw.st r1.2.2.2.1 hm2 (fun k h1 h2 => by rw [pm_set_off (by omega), pm_set_off (by omega)]) (fun _ _ _ => rfl), lr_Rr.st r1.2.2.2.2.1 hm4 (fun k h1 h2 => by rw [pm_set_off (by omega), pm_set_off (by omega)]) (fun _ _ _ => rfl), lr_Ra.st r1.2.2.2.2.2.1 hm5 (fun k h1 h2 => by rw [pm_set_off (by omega), pm_set_off (by omega)]) (fun _ _ _ => rfl), lr_Rl.st r1.2.2.2.2.2.2 hm6 (fun k h1 h2 => by rw [pm_set_off (by omega), pm_set_off (by omega)]) rfl (fun _ _ _ => rfl)⟩, pm_set_hit, by rw [pm_set_miss (Or.inr (by decide)), pm_set_hit]; first | rfl | exact nI_1 6⟩)
set_option maxHeartbeats 4000000 in
set_option maxRecDepth 100000 in
theorem c_X2_takeBack_6 {g : Nat → Int32} {c : Nat} (μ : pm_Mm) (hR : lr_Rel μ.1 291 g) (hB : lr_B g) (hn : μ.1 45 1 = nI 6) (hcc : μ.1 45 0 = nI (c + 1)) : pm_CT mi_X2_takeBack [.ref 45, .ref 1] μ (fun v μ2 => v = none ∧ μ2.2 = μ.2 ∧ (∀ i, i ≠ 45 → (i < 1 ∨ 39 < i) → μ2.1 i = μ.1 i) ∧ lr_Rel μ2.1 1 g ∧ μ2.1 45 0 = nI c ∧ μ2.1 45 1 = nI 5) pm_NX := by
  refine pm_CT_of (lo := [some (.ref 45), some (.ref 1)]) (by decide +kernel) rfl rfl (by intro v hv; simp at hv; rcases hv with rfl | rfl <;> rfl) (Nat.le_of_ble_eq_true rfl) rfl ?_
  obtain ⟨hm1, hm3, hm2, hm4, hm5, hm6⟩ := id hB
  have hR0 : lr_Rel (pm_set μ 45 1 (nI 6 - 1)).1 291 g := ⟨by rw [pm_set_off (by omega)]; exact hR.1, lr_Rh.st hR.2.1 hm1 (fun k h1 h2 => by rw [pm_set_off (by omega)]) (fun _ _ _ => rfl), lr_Rp.st hR.2.2.1 hm3 (fun k h1 h2 => by rw [pm_set_off (by omega)]) (fun _ _ _ => rfl), lr_Rw.st hR.2.2.2.1 hm2 (fun k h1 h2 => by rw [pm_set_off (by omega)]) (fun _ _ _ => rfl), lr_Rr.st hR.2.2.2.2.1 hm4 (fun k h1 h2 => by rw [pm_set_off (by omega)]) (fun _ _ _ => rfl), lr_Ra.st hR.2.2.2.2.2.1 hm5 (fun k h1 h2 => by rw [pm_set_off (by omega)]) (fun _ _ _ => rfl), lr_Rl.st hR.2.2.2.2.2.2 hm6 (fun k h1 h2 => by rw [pm_set_off (by omega)]) rfl (fun _ _ _ => rfl)⟩
  refine pm_bl [(.aload_n 0, 1, 0, 0, 0), (.aload_n 0, 1, 0, 0, 0), (.getfield 15, 3, 2, 1, 0)] (pc1 := 5) (lo1 := [some (.ref 45), some (.ref 1)]) (st1 := [.int (μ.1 45 1), .ref 45]) (μ1 := μ) (vc := True) rfl (by decide +kernel) rfl trivial ?_
  rw [hn]
  refine pm_if_ne (off := 8) 13 (by decide +kernel) (by decide) (fun (h5 : ¬ (nI 6) = 0) => ?_) (fun (h9 : (nI 6) = 0) => absurd h9 (by decide))
  refine pm_bl [(.aload_n 0, 1, 0, 0, 0), (.getfield 15, 3, 2, 1, 0)] (pc1 := 17) (lo1 := [some (.ref 45), some (.ref 1)]) (st1 := [.int (μ.1 45 1), .ref 45]) (μ1 := μ) (vc := True) rfl (by decide +kernel) rfl trivial ?_
  rw [hn]
  refine pm_bl [(.iconst 1, 1, 0, 0, 1), (.isub, 1, 0, 0, 0), (.putfield 15, 3, 2, 1, 0), (.aload_n 1, 1, 1, 0, 0), (.aload_n 0, 1, 0, 0, 0), (.getfield 20, 3, 2, 2, 0), (.aload_n 0, 1, 0, 0, 0), (.getfield 15, 3, 2, 1, 0)] (pc1 := 31) (lo1 := [some (.ref 45), some (.ref 1)]) (st1 := [.int ((pm_set μ 45 1 ((nI 6) - 1)).1 45 1), .ref 46, .ref 1]) (μ1 := pm_set μ 45 1 ((nI 6) - 1)) (vc := True) rfl (by decide +kernel) rfl trivial ?_
  rw [show (pm_set μ 45 1 ((nI 6) - 1)).1 45 1 = (nI 6) - 1 from by simp [pm_set]]
  refine pm_aald (r := 46) (n := 8) (j := (nI 6 - 1)) rfl (by rw [show (nI 6 - 1) = nI 5 from by decide]; exact vp_in_nI (by omega) (by omega)) (by decide +kernel) ?_
  rw [show ((nI 6 - 1)).toNatClampNeg = 5 from by decide]
  show pm_V _ _ _ _ 32 _ [.ref 291, .ref 1] _
  refine pm_callV2 mi_X5_copyFrom (ix := 25) (b := 1) (ci := 5) (kc2 := 0) (ks2 := 0) (As := [.ref 291]) (rest := []) (c_X5_copyFrom_1_291 (pm_set μ 45 1 ((nI 6) - 1)) hR0 hB) cal_X5_copyFrom lk2_25 (by decide +kernel) rfl (by decide +kernel) rfl rfl rfl rfl (Nat.le_of_ble_eq_true rfl) (by decide) (by decide) (fun _ _ h9 => h9.elim) ?_
  rintro _ μ1 ⟨rfl, x1, f1, r1⟩
  show pm_V _ _ _ _ 35 _ [] _
  refine pm_bl [(.aload_n 0, 1, 0, 0, 0), (.dup, 1, 0, 0, 0), (.getfield 9, 3, 2, 0, 0)] (pc1 := 40) (lo1 := [some (.ref 45), some (.ref 1)]) (st1 := [.int (μ1.1 45 0), .ref 45]) (μ1 := μ1) (vc := True) rfl (by decide +kernel) rfl trivial ?_
  rw [show μ1.1 45 0 = nI (c + 1) from by rw [f1 _ (by omega), pm_set_miss (Or.inr (by decide)), hcc]]
  refine pm_bl [(.iconst 1, 1, 0, 0, 1), (.isub, 1, 0, 0, 0), (.putfield 9, 3, 2, 0, 0)] (pc1 := 45) (lo1 := [some (.ref 45), some (.ref 1)]) (st1 := []) (μ1 := pm_set μ1 45 0 ((nI (c + 1)) - 1)) (vc := True) rfl (by decide +kernel) rfl trivial ?_
  exact pm_vret rfl (by decide) (by decide) (by decide +kernel) (⟨rfl, x1, fun i h1 h2 => by rw [pm_set_off h1, f1 i h2, pm_set_off h1], ⟨by rw [pm_set_off (by omega)]; exact r1.1, lr_Rh.st r1.2.1 hm1 (fun k h1 h2 => by rw [pm_set_off (by omega)]) (fun _ _ _ => rfl), lr_Rp.st r1.2.2.1 hm3 (fun k h1 h2 => by rw [pm_set_off (by omega)]) (fun _ _ _ => rfl), lr_Rw.st r1.2.2.2.1 hm2 (fun k h1 h2 => by rw [pm_set_off (by omega)]) (fun _ _ _ => rfl), lr_Rr.st r1.2.2.2.2.1 hm4 (fun k h1 h2 => by rw [pm_set_off (by omega)]) (fun _ _ _ => rfl), lr_Ra.st r1.2.2.2.2.2.1 hm5 (fun k h1 h2 => by rw [pm_set_off (by omega)]) (fun _ _ _ => rfl), lr_Rl.st r1.2.2.2.2.2.2 hm6 (fun k h1 h2 => by rw [pm_set_off (by omega)]) rfl (fun _ _ _ => rfl)⟩, by rw [pm_set_hit, nI_pred], by rw [pm_set_miss (Or.inr (by decide)), f1 _ (by omega), pm_set_hit]; first | rfl | decide⟩)
set_option maxHeartbeats 4000000 in
set_option maxRecDepth 100000 in
theorem c_X2_keep_7 {g : Nat → Int32} {c : Nat} (μ : pm_Mm) (hR : lr_Rel μ.1 1 g) (hB : lr_B g) (hn : μ.1 45 1 = nI 7) (hcc : μ.1 45 0 = nI c) (hc : c ≤ 8) : pm_CT mi_X2_keep [.ref 45, .ref 1] μ (fun v μ2 => v = none ∧ μ2.2 = μ.2 ∧ (∀ i, i ≠ 45 → (i < 369 ∨ 407 < i) → μ2.1 i = μ.1 i) ∧ lr_Rel μ2.1 369 g ∧ μ2.1 45 0 = nI (min (c + 1) 8) ∧ μ2.1 45 1 = nI 0) pm_NX := by
  refine pm_CT_of (lo := [some (.ref 45), some (.ref 1)]) (by decide +kernel) rfl rfl (by intro v hv; simp at hv; rcases hv with rfl | rfl <;> rfl) (Nat.le_of_ble_eq_true rfl) rfl ?_
  obtain ⟨hm1, hm3, hm2, hm4, hm5, hm6⟩ := id hB
  refine pm_bl [(.aload_n 0, 1, 0, 0, 0), (.getfield 20, 3, 2, 2, 0), (.aload_n 0, 1, 0, 0, 0), (.getfield 15, 3, 2, 1, 0)] (pc1 := 8) (lo1 := [some (.ref 45), some (.ref 1)]) (st1 := [.int (μ.1 45 1), .ref 46]) (μ1 := μ) (vc := True) rfl (by decide +kernel) rfl trivial ?_
  rw [hn]
  refine pm_aald (r := 46) (n := 8) (j := nI 7) rfl (vp_in_nI (by omega) (by omega)) (by decide +kernel) ?_
  rw [nI_clamp (n := 7) (by omega)]
  show pm_V _ _ _ _ 9 _ [.ref 369] _
  refine pm_bl [(.aload_n 1, 1, 1, 0, 0)] (pc1 := 10) (lo1 := [some (.ref 45), some (.ref 1)]) (st1 := [.ref 1, .ref 369]) (μ1 := μ) (vc := True) rfl (by decide +kernel) rfl trivial ?_
  refine pm_callV2 mi_X5_copyFrom (ix := 25) (b := 369) (ci := 5) (kc2 := 0) (ks2 := 0) (As := [.ref 1]) (rest := []) (c_X5_copyFrom_369_1 μ hR hB) cal_X5_copyFrom lk2_25 (by decide +kernel) rfl (by decide +kernel) rfl rfl rfl rfl (Nat.le_of_ble_eq_true rfl) (by decide) (by decide) (fun _ _ h9 => h9.elim) ?_
  rintro _ μ1 ⟨rfl, x1, f1, r1⟩
  show pm_V _ _ _ _ 13 _ [] _
  refine pm_bl [(.aload_n 0, 1, 0, 0, 0), (.aload_n 0, 1, 0, 0, 0), (.getfield 15, 3, 2, 1, 0)] (pc1 := 18) (lo1 := [some (.ref 45), some (.ref 1)]) (st1 := [.int (μ1.1 45 1), .ref 45]) (μ1 := μ1) (vc := True) rfl (by decide +kernel) rfl trivial ?_
  rw [show μ1.1 45 1 = nI 7 from by rw [f1 _ (by omega), hn]]
  refine pm_bl [(.bipush 7, 2, 0, 0, 7)] (pc1 := 20) (lo1 := [some (.ref 45), some (.ref 1)]) (st1 := [.int 7, .int (nI 7), .ref 45]) (μ1 := μ1) (vc := True) rfl (by decide +kernel) rfl trivial ?_
  refine pm_icmp_ne (off := 7) 27 (by decide +kernel) (by decide) (fun (h9 : ¬ (nI 7) = 7) => absurd h9 (by decide)) (fun (h20 : (nI 7) = 7) => ?_)
  refine pm_bl [(.iconst 0, 1, 0, 0, 0), (.goto 9, 3, 33, 0, 0), (.putfield 15, 3, 2, 1, 0), (.aload_n 0, 1, 0, 0, 0), (.aload_n 0, 1, 0, 0, 0), (.getfield 9, 3, 2, 0, 0)] (pc1 := 41) (lo1 := [some (.ref 45), some (.ref 1)]) (st1 := [.int ((pm_set μ1 45 1 0).1 45 0), .ref 45]) (μ1 := pm_set μ1 45 1 0) (vc := True) rfl (by decide +kernel) rfl trivial ?_
  rw [show (pm_set μ1 45 1 0).1 45 0 = μ1.1 45 0 from by simp [pm_set]]
  rw [show μ1.1 45 0 = nI c from by rw [f1 _ (by omega), hcc]]
  refine pm_bl [(.iconst 1, 1, 0, 0, 1), (.iadd, 1, 0, 0, 0), (.bipush 8, 2, 0, 0, 8)] (pc1 := 45) (lo1 := [some (.ref 45), some (.ref 1)]) (st1 := [.int 8, .int ((nI c) + 1), .ref 45]) (μ1 := pm_set μ1 45 1 0) (vc := True) rfl (by decide +kernel) rfl trivial ?_
  refine pm_min lkM2_29 (by decide +kernel) (by decide) (Nat.le_of_ble_eq_true rfl) ?_
  rw [lr_min8 hc]
  refine pm_bl [(.putfield 9, 3, 2, 0, 0)] (pc1 := 51) (lo1 := [some (.ref 45), some (.ref 1)]) (st1 := []) (μ1 := pm_set (pm_set μ1 45 1 0) 45 0 (nI (min (c + 1) 8))) (vc := True) rfl (by decide +kernel) rfl trivial ?_
  exact pm_vret rfl (by decide) (by decide) (by decide +kernel) (⟨rfl, x1, fun i h1 h2 => by rw [pm_set_off h1, pm_set_off h1]; exact f1 i h2, ⟨by rw [pm_set_off (by omega), pm_set_off (by omega)]; exact r1.1, lr_Rh.st r1.2.1 hm1 (fun k h1 h2 => by rw [pm_set_off (by omega), pm_set_off (by omega)]) (fun _ _ _ => rfl), lr_Rp.st r1.2.2.1 hm3 (fun k h1 h2 => by rw [pm_set_off (by omega), pm_set_off (by omega)]) (fun _ _ _ => rfl), lr_Rw.st r1.2.2.2.1 hm2 (fun k h1 h2 => by rw [pm_set_off (by omega), pm_set_off (by omega)]) (fun _ _ _ => rfl), lr_Rr.st r1.2.2.2.2.1 hm4 (fun k h1 h2 => by rw [pm_set_off (by omega), pm_set_off (by omega)]) (fun _ _ _ => rfl), lr_Ra.st r1.2.2.2.2.2.1 hm5 (fun k h1 h2 => by rw [pm_set_off (by omega), pm_set_off (by omega)]) (fun _ _ _ => rfl), lr_Rl.st r1.2.2.2.2.2.2 hm6 (fun k h1 h2 => by rw [pm_set_off (by omega), pm_set_off (by omega)]) rfl (fun _ _ _ => rfl)⟩, pm_set_hit, by rw [pm_set_miss (Or.inr (by decide)), pm_set_hit]; first | rfl | exact nI_1 7⟩)
set_option maxHeartbeats 4000000 in
set_option maxRecDepth 100000 in
theorem c_X2_takeBack_7 {g : Nat → Int32} {c : Nat} (μ : pm_Mm) (hR : lr_Rel μ.1 330 g) (hB : lr_B g) (hn : μ.1 45 1 = nI 7) (hcc : μ.1 45 0 = nI (c + 1)) : pm_CT mi_X2_takeBack [.ref 45, .ref 1] μ (fun v μ2 => v = none ∧ μ2.2 = μ.2 ∧ (∀ i, i ≠ 45 → (i < 1 ∨ 39 < i) → μ2.1 i = μ.1 i) ∧ lr_Rel μ2.1 1 g ∧ μ2.1 45 0 = nI c ∧ μ2.1 45 1 = nI 6) pm_NX := by
  refine pm_CT_of (lo := [some (.ref 45), some (.ref 1)]) (by decide +kernel) rfl rfl (by intro v hv; simp at hv; rcases hv with rfl | rfl <;> rfl) (Nat.le_of_ble_eq_true rfl) rfl ?_
  obtain ⟨hm1, hm3, hm2, hm4, hm5, hm6⟩ := id hB
  have hR0 : lr_Rel (pm_set μ 45 1 (nI 7 - 1)).1 330 g := ⟨by rw [pm_set_off (by omega)]; exact hR.1, lr_Rh.st hR.2.1 hm1 (fun k h1 h2 => by rw [pm_set_off (by omega)]) (fun _ _ _ => rfl), lr_Rp.st hR.2.2.1 hm3 (fun k h1 h2 => by rw [pm_set_off (by omega)]) (fun _ _ _ => rfl), lr_Rw.st hR.2.2.2.1 hm2 (fun k h1 h2 => by rw [pm_set_off (by omega)]) (fun _ _ _ => rfl), lr_Rr.st hR.2.2.2.2.1 hm4 (fun k h1 h2 => by rw [pm_set_off (by omega)]) (fun _ _ _ => rfl), lr_Ra.st hR.2.2.2.2.2.1 hm5 (fun k h1 h2 => by rw [pm_set_off (by omega)]) (fun _ _ _ => rfl), lr_Rl.st hR.2.2.2.2.2.2 hm6 (fun k h1 h2 => by rw [pm_set_off (by omega)]) rfl (fun _ _ _ => rfl)⟩
  refine pm_bl [(.aload_n 0, 1, 0, 0, 0), (.aload_n 0, 1, 0, 0, 0), (.getfield 15, 3, 2, 1, 0)] (pc1 := 5) (lo1 := [some (.ref 45), some (.ref 1)]) (st1 := [.int (μ.1 45 1), .ref 45]) (μ1 := μ) (vc := True) rfl (by decide +kernel) rfl trivial ?_
  rw [hn]
  refine pm_if_ne (off := 8) 13 (by decide +kernel) (by decide) (fun (h5 : ¬ (nI 7) = 0) => ?_) (fun (h9 : (nI 7) = 0) => absurd h9 (by decide))
  refine pm_bl [(.aload_n 0, 1, 0, 0, 0), (.getfield 15, 3, 2, 1, 0)] (pc1 := 17) (lo1 := [some (.ref 45), some (.ref 1)]) (st1 := [.int (μ.1 45 1), .ref 45]) (μ1 := μ) (vc := True) rfl (by decide +kernel) rfl trivial ?_
  rw [hn]
  refine pm_bl [(.iconst 1, 1, 0, 0, 1), (.isub, 1, 0, 0, 0), (.putfield 15, 3, 2, 1, 0), (.aload_n 1, 1, 1, 0, 0), (.aload_n 0, 1, 0, 0, 0), (.getfield 20, 3, 2, 2, 0), (.aload_n 0, 1, 0, 0, 0), (.getfield 15, 3, 2, 1, 0)] (pc1 := 31) (lo1 := [some (.ref 45), some (.ref 1)]) (st1 := [.int ((pm_set μ 45 1 ((nI 7) - 1)).1 45 1), .ref 46, .ref 1]) (μ1 := pm_set μ 45 1 ((nI 7) - 1)) (vc := True) rfl (by decide +kernel) rfl trivial ?_
  rw [show (pm_set μ 45 1 ((nI 7) - 1)).1 45 1 = (nI 7) - 1 from by simp [pm_set]]
  refine pm_aald (r := 46) (n := 8) (j := (nI 7 - 1)) rfl (by rw [show (nI 7 - 1) = nI 6 from by decide]; exact vp_in_nI (by omega) (by omega)) (by decide +kernel) ?_
  rw [show ((nI 7 - 1)).toNatClampNeg = 6 from by decide]
  show pm_V _ _ _ _ 32 _ [.ref 330, .ref 1] _
  refine pm_callV2 mi_X5_copyFrom (ix := 25) (b := 1) (ci := 5) (kc2 := 0) (ks2 := 0) (As := [.ref 330]) (rest := []) (c_X5_copyFrom_1_330 (pm_set μ 45 1 ((nI 7) - 1)) hR0 hB) cal_X5_copyFrom lk2_25 (by decide +kernel) rfl (by decide +kernel) rfl rfl rfl rfl (Nat.le_of_ble_eq_true rfl) (by decide) (by decide) (fun _ _ h9 => h9.elim) ?_
  rintro _ μ1 ⟨rfl, x1, f1, r1⟩
  show pm_V _ _ _ _ 35 _ [] _
  refine pm_bl [(.aload_n 0, 1, 0, 0, 0), (.dup, 1, 0, 0, 0), (.getfield 9, 3, 2, 0, 0)] (pc1 := 40) (lo1 := [some (.ref 45), some (.ref 1)]) (st1 := [.int (μ1.1 45 0), .ref 45]) (μ1 := μ1) (vc := True) rfl (by decide +kernel) rfl trivial ?_
  rw [show μ1.1 45 0 = nI (c + 1) from by rw [f1 _ (by omega), pm_set_miss (Or.inr (by decide)), hcc]]
  refine pm_bl [(.iconst 1, 1, 0, 0, 1), (.isub, 1, 0, 0, 0), (.putfield 9, 3, 2, 0, 0)] (pc1 := 45) (lo1 := [some (.ref 45), some (.ref 1)]) (st1 := []) (μ1 := pm_set μ1 45 0 ((nI (c + 1)) - 1)) (vc := True) rfl (by decide +kernel) rfl trivial ?_
  exact pm_vret rfl (by decide) (by decide) (by decide +kernel) (⟨rfl, x1, fun i h1 h2 => by rw [pm_set_off h1, f1 i h2, pm_set_off h1], ⟨by rw [pm_set_off (by omega)]; exact r1.1, lr_Rh.st r1.2.1 hm1 (fun k h1 h2 => by rw [pm_set_off (by omega)]) (fun _ _ _ => rfl), lr_Rp.st r1.2.2.1 hm3 (fun k h1 h2 => by rw [pm_set_off (by omega)]) (fun _ _ _ => rfl), lr_Rw.st r1.2.2.2.1 hm2 (fun k h1 h2 => by rw [pm_set_off (by omega)]) (fun _ _ _ => rfl), lr_Rr.st r1.2.2.2.2.1 hm4 (fun k h1 h2 => by rw [pm_set_off (by omega)]) (fun _ _ _ => rfl), lr_Ra.st r1.2.2.2.2.2.1 hm5 (fun k h1 h2 => by rw [pm_set_off (by omega)]) (fun _ _ _ => rfl), lr_Rl.st r1.2.2.2.2.2.2 hm6 (fun k h1 h2 => by rw [pm_set_off (by omega)]) rfl (fun _ _ _ => rfl)⟩, by rw [pm_set_hit, nI_pred], by rw [pm_set_miss (Or.inr (by decide)), f1 _ (by omega), pm_set_hit]; first | rfl | decide⟩)
theorem c_X2_keep {g : Nat → Int32} {c n : Nat} (μ : pm_Mm) (hR : lr_Rel μ.1 1 g) (hB : lr_B g) (hn8 : n < 8) (hn : μ.1 45 1 = nI n) (hcc : μ.1 45 0 = nI c) (hc : c ≤ 8) : pm_CT mi_X2_keep [.ref 45, .ref 1] μ (fun v μ2 => v = none ∧ μ2.2 = μ.2 ∧ (∀ i, i ≠ 45 → (i < 96 + 39 * n ∨ 96 + 39 * n + 38 < i) → μ2.1 i = μ.1 i) ∧ lr_Rel μ2.1 (96 + 39 * n) g ∧ μ2.1 45 0 = nI (min (c + 1) 8) ∧ μ2.1 45 1 = nI ((n + 1) % 8)) pm_NX := by
  match n, hn8, hn with
  | 0, _, hn => exact c_X2_keep_0 μ hR hB hn hcc hc
  | 1, _, hn => exact c_X2_keep_1 μ hR hB hn hcc hc
  | 2, _, hn => exact c_X2_keep_2 μ hR hB hn hcc hc
  | 3, _, hn => exact c_X2_keep_3 μ hR hB hn hcc hc
  | 4, _, hn => exact c_X2_keep_4 μ hR hB hn hcc hc
  | 5, _, hn => exact c_X2_keep_5 μ hR hB hn hcc hc
  | 6, _, hn => exact c_X2_keep_6 μ hR hB hn hcc hc
  | 7, _, hn => exact c_X2_keep_7 μ hR hB hn hcc hc
theorem c_X2_takeBack {g : Nat → Int32} {c n : Nat} (μ : pm_Mm) (hn8 : n < 8) (hR : lr_Rel μ.1 (96 + 39 * ((n + 7) % 8)) g) (hB : lr_B g) (hn : μ.1 45 1 = nI n) (hcc : μ.1 45 0 = nI (c + 1)) : pm_CT mi_X2_takeBack [.ref 45, .ref 1] μ (fun v μ2 => v = none ∧ μ2.2 = μ.2 ∧ (∀ i, i ≠ 45 → (i < 1 ∨ 39 < i) → μ2.1 i = μ.1 i) ∧ lr_Rel μ2.1 1 g ∧ μ2.1 45 0 = nI c ∧ μ2.1 45 1 = nI ((n + 7) % 8)) pm_NX := by
  match n, hn8, hR, hn with
  | 0, _, hR, hn => exact c_X2_takeBack_0 μ hR hB hn hcc
  | 1, _, hR, hn => exact c_X2_takeBack_1 μ hR hB hn hcc
  | 2, _, hR, hn => exact c_X2_takeBack_2 μ hR hB hn hcc
  | 3, _, hR, hn => exact c_X2_takeBack_3 μ hR hB hn hcc
  | 4, _, hR, hn => exact c_X2_takeBack_4 μ hR hB hn hcc
  | 5, _, hR, hn => exact c_X2_takeBack_5 μ hR hB hn hcc
  | 6, _, hR, hn => exact c_X2_takeBack_6 μ hR hB hn hcc
  | 7, _, hR, hn => exact c_X2_takeBack_7 μ hR hB hn hcc
set_option maxHeartbeats 4000000 in
set_option maxRecDepth 100000 in
theorem c_X2_forget (μ : pm_Mm) : pm_CT mi_X2_forget [.ref 45] μ (fun v μ2 => v = none ∧ μ2 = pm_set μ 45 0 0) pm_NX := by
  refine pm_CT_of (lo := [some (.ref 45)]) (by decide +kernel) rfl rfl (by intro v hv; simp at hv; rcases hv with rfl; rfl) (Nat.le_of_ble_eq_true rfl) rfl ?_
  refine pm_bl [(.aload_n 0, 1, 0, 0, 0), (.iconst 0, 1, 0, 0, 0), (.putfield 9, 3, 2, 0, 0)] (pc1 := 5) (lo1 := [some (.ref 45)]) (st1 := []) (μ1 := pm_set μ 45 0 0) (vc := True) rfl (by decide +kernel) rfl trivial ?_
  exact pm_vret rfl (by decide) (by decide) (by decide +kernel) (⟨rfl, rfl⟩)
