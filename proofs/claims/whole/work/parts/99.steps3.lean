/-! more steps of the law -/
theorem lr_fs_read_end {μ M2 : pm_Mm} {g : Nat → Int32} {c n : Nat} {F : Nat → Nat → Int32} {x : Int32} (hV : lr_Vv μ.1 g c n F) (d : lr_fs (pm_set (pm_setL μ 0 x.toInt64) 47 7 0) M2) : M2.1 47 7 = 0 ∧ ((0 : Int32) = 0 → M2.2.1 0 = x.toInt64) ∧ lr_V M2.1 := by
  refine ⟨?_, fun _ => ?_, _, _, _, _, hV.same (fun i h1 h2 => ?_) (fun j h1 => ?_)⟩
  · rw [d.1 47 (by decide), pm_set_at]; unfold upd; simp
  · rw [d.2]; exact lr_L_at
  · rw [d.1 i h2, pm_set_off h1]; rfl
  · rw [d.1 47 (by decide), pm_set_miss (Or.inr h1)]; rfl
theorem lr_fs_thr_end {μ M2 : pm_Mm} {g : Nat → Int32} {c n : Nat} {F : Nat → Nat → Int32} {k y : Int32} (hV : lr_Vv μ.1 g c n F) (hk : ¬ k = 0) (d : lr_fs (pm_set (pm_set μ 47 7 0) 47 7 k) M2) : M2.1 47 7 = k ∧ (k = 0 → M2.2.1 0 = y.toInt64) ∧ lr_V M2.1 := by
  refine ⟨?_, fun h => absurd h hk, _, _, _, _, hV.same (fun i h1 h2 => ?_) (fun j h1 => ?_)⟩
  · rw [d.1 47 (by decide), pm_set_at]; unfold upd; simp
  · rw [d.1 i h2, pm_set_off h1, pm_set_off h1]
  · rw [d.1 47 (by decide), pm_set_miss (Or.inr h1), pm_set_miss (Or.inr h1)]
set_option maxHeartbeats 4000000 in
set_option maxRecDepth 100000 in
theorem st_stopIndex (x0 : Int32) (μ : pm_Mm) (hV : lr_V μ.1) : lr_St mi_L_stopIndex mi_X10_stopIndex [.ref 0, .int x0, .ref 55] [.ref 47, .int x0] μ := by
  obtain ⟨g, c, n, F, hV⟩ := hV
  obtain ⟨a1, hI, a3, a4, a5, a6, a7, a8, a9, a10⟩ := id hV
  have hG := hI.1
  have hm1 := lr_mh hG; have hm2 := lr_mw hG; have hm3 := lr_mp hG; have hm4 := lr_mr hG; have hm5 := lr_ma hG; have hm6 := lr_ml hG
  unfold lr_St
  rcases Bool.eq_false_or_eq_true (lr_be x0 (nI (lr_n g 2))) with hb | hb
  · obtain ⟨h, hh, rfl⟩ := lr_be_t (by omega) hb
    by_cases hs : lr_sv g h = -1
    · refine c_L_stopIndex μ (c_X9_stopIndex_no2 μ a3 hG hh hs) _ (fun _ _ h => h.elim) ?_
      rintro _ _ ⟨rfl, h9⟩; rw [h9]; clear h9
      refine (Or.inr ⟨rfl, _, rfl, (c_X10_stopIndex_no2 μ a1 hG hh hs).imp ?_ (fun _ _ h => h.elim)⟩)
      rintro _ _ ⟨rfl, h9⟩; rw [h9]; clear h9
      exact ⟨_, rfl, lr_thr_end hV (by decide)⟩
    · obtain ⟨u, hu, hu2⟩ := (lr_sv_ok g h).resolve_left hs
      have e9 : lr_spo g h = lr_sp g h := by unfold lr_spo; rw [if_neg hs]
      refine c_L_stopIndex μ (c_X9_stopIndex μ a3 hG hh hs) _ ?_ (fun _ _ h => h.elim)
      rintro _ _ ⟨rfl, h9⟩; rw [h9]; clear h9
      refine ⟨_, rfl, _, rfl, (c_X10_stopIndex (pm_setL μ 0 _) a1 hG hh hu2 hu).imp ?_ (fun _ _ h => h.elim)⟩
      rintro _ _ ⟨rfl, h9⟩
      rw [← e9]
      rw [h9]; clear h9
      exact ⟨_, rfl, lr_read_end hV⟩
  · refine c_L_stopIndex μ (c_X9_stopIndex_no1 μ a3 hG hb) _ (fun _ _ h => h.elim) ?_
    rintro _ _ ⟨rfl, h9⟩; rw [h9]; clear h9
    refine (Or.inl ⟨rfl, _, rfl, (c_X10_stopIndex_no1 μ a1 hG hb).imp ?_ (fun _ _ h => h.elim)⟩)
    rintro _ _ ⟨rfl, h9⟩; rw [h9]; clear h9
    exact ⟨_, rfl, lr_thr_end hV (by decide)⟩
set_option maxHeartbeats 4000000 in
set_option maxRecDepth 100000 in
theorem st_way (x0 x1 x2 : Int32) (μ : pm_Mm) (hV : lr_V μ.1) : lr_St mi_L_way mi_X10_way [.ref 0, .int x0, .int x1, .int x2, .ref 55] [.ref 47, .int x0, .int x1, .int x2] μ := by
  obtain ⟨g, c, n, F, hV⟩ := hV
  obtain ⟨a1, hI, a3, a4, a5, a6, a7, a8, a9, a10⟩ := id hV
  have hG := hI.1
  have hm1 := lr_mh hG; have hm2 := lr_mw hG; have hm3 := lr_mp hG; have hm4 := lr_mr hG; have hm5 := lr_ma hG; have hm6 := lr_ml hG
  unfold lr_St
  have lr_nn : ∀ {y : Int32}, ¬ y < -1 → ¬ y = -1 → ¬ y < 0 := by
    intro y h1 h2 c
    rw [Int32.lt_iff_toInt_lt] at h1
    have c1 := Int32.lt_iff_toInt_lt.mp c
    rw [show (-1 : Int32).toInt = -1 from rfl] at h1
    rw [show (0 : Int32).toInt = 0 from rfl] at c1
    exact h2 (Int32.toInt_inj.mp (by rw [show (-1 : Int32).toInt = -1 from rfl]; omega))
  rcases Bool.eq_false_or_eq_true (lr_be x0 (nI (lr_n g 35))) with hb | hb
  · obtain ⟨h, hh, rfl⟩ := lr_be_t (by omega) hb
    rcases Bool.eq_false_or_eq_true (lr_in x1 0 365) with hl | hl
    · have hl2 := hl
      obtain ⟨d, rfl, -, hd⟩ := lr_in_nat (lo := 0) (hi := 365) (by decide) (by decide) hl2
      by_cases hz : x2 < -1
      · refine c_L_way μ (c_X9_way_no2b μ a3 hG hh hl hz) _ (fun _ _ h => h.elim) ?_
        rintro _ _ ⟨rfl, h9⟩; rw [h9]; clear h9
        refine (Or.inr (Or.inl ⟨rfl, _, rfl, (c_X10_way_no2b μ a1 hG hh rfl hd hz).imp ?_ (fun _ _ h => h.elim)⟩))
        rintro _ _ ⟨rfl, h9⟩; rw [h9]; clear h9
        exact ⟨_, rfl, lr_thr_end hV (by decide)⟩
      · by_cases hy : x2 = -1
        · rw [hy]
          refine c_L_way μ (c_X9_way_end μ a3 hG hh hl) _ ?_ (fun _ _ h => h.elim)
          rintro _ _ ⟨rfl, h9⟩; rw [h9]; clear h9
          refine ⟨_, rfl, _, rfl, (c_X10_way_end (pm_setL μ 0 _) a1 hG hh hI.2.1 rfl hd).imp ?_ (fun _ _ h => h.elim)⟩
          rintro _ _ ⟨rfl, h9⟩; rw [h9]; clear h9
          exact ⟨_, rfl, lr_read_end hV⟩
        · obtain ⟨K, hK, rfl⟩ := nI_of (lr_nn hz hy)
          have he := lr_way_eq hI (K := K) hd hh
          by_cases hs : (if K < 16 then lr_on g (nI d) K (lr_wb g h (nI d)) else -1) = -1
          · refine c_L_way μ (c_X9_way_no3 μ a3 hG hh hl hK hs) _ (fun _ _ h => h.elim) ?_
            rintro _ _ ⟨rfl, h9⟩; rw [h9]; clear h9
            refine (Or.inr (Or.inr ⟨rfl, _, rfl, (c_X10_way μ a1 hG hh rfl hd hK).imp ?_ (fun _ _ h => h.elim)⟩))
            rintro _ _ ⟨rfl, h9⟩
            rw [if_pos (he.symm.trans hs)] at h9
            rw [h9]; clear h9
            exact ⟨_, rfl, lr_thr_end2 hV (by decide)⟩
          · refine c_L_way μ (c_X9_way μ a3 hG hh hl hK hs) _ ?_ (fun _ _ h => h.elim)
            rintro _ _ ⟨rfl, h9⟩; rw [h9]; clear h9
            refine ⟨_, rfl, _, rfl, (c_X10_way (pm_setL μ 0 _) a1 hG hh rfl hd hK).imp ?_ (fun _ _ h => h.elim)⟩
            rintro _ _ ⟨rfl, h9⟩
            rw [if_neg (fun q => hs (he.trans q))] at h9
            rw [if_neg (fun q => hs (he.trans q)), ← he]
            rw [h9]; clear h9
            exact ⟨_, rfl, lr_read_end hV⟩
    · refine c_L_way μ (c_X9_way_no2 _ μ a3 hG hh hl) _ (fun _ _ h => h.elim) ?_
      rintro _ _ ⟨rfl, h9⟩; rw [h9]; clear h9
      refine (Or.inr (Or.inl ⟨rfl, _, rfl, (c_X10_way_no2 _ μ a1 hG hh hl).imp ?_ (fun _ _ h => h.elim)⟩))
      rintro _ _ ⟨rfl, h9⟩; rw [h9]; clear h9
      exact ⟨_, rfl, lr_thr_end hV (by decide)⟩
  · refine c_L_way μ (c_X9_way_no1 _ _ μ a3 hG hb) _ (fun _ _ h => h.elim) ?_
    rintro _ _ ⟨rfl, h9⟩; rw [h9]; clear h9
    refine (Or.inl ⟨rfl, _, rfl, (c_X10_way_no1 _ _ μ a1 hG hb).imp ?_ (fun _ _ h => h.elim)⟩)
    rintro _ _ ⟨rfl, h9⟩; rw [h9]; clear h9
    exact ⟨_, rfl, lr_thr_end hV (by decide)⟩
set_option maxHeartbeats 4000000 in
set_option maxRecDepth 100000 in
theorem st_returned (x0 : Int32) (μ : pm_Mm) (hV : lr_V μ.1) : lr_St mi_L_returned mi_X10_returned [.ref 0, .int x0, .ref 55] [.ref 47, .int x0] μ := by
  obtain ⟨g, c, n, F, hV⟩ := hV
  obtain ⟨a1, hI, a3, a4, a5, a6, a7, a8, a9, a10⟩ := id hV
  have hG := hI.1
  have hm1 := lr_mh hG; have hm2 := lr_mw hG; have hm3 := lr_mp hG; have hm4 := lr_mr hG; have hm5 := lr_ma hG; have hm6 := lr_ml hG
  unfold lr_St
  rcases Bool.eq_false_or_eq_true (lr_in x0 1 4) with hl | hl
  · refine c_L_returned μ (c_X9_returned μ a3 hG hl) _ ?_ (fun _ _ h => h.elim)
    rintro _ _ ⟨rfl, h9⟩; rw [h9]; clear h9
    refine ⟨_, rfl, _, rfl, (c_X10_returned (pm_setL μ 0 _) a1 hG hl).imp ?_ (fun _ _ h => h.elim)⟩
    rintro _ _ ⟨rfl, h9⟩; rw [h9]; clear h9
    exact ⟨_, rfl, lr_read_end hV⟩
  · refine c_L_returned μ (c_X9_returned_no μ a3 hG hl) _ (fun _ _ h => h.elim) ?_
    rintro _ _ ⟨rfl, h9⟩; rw [h9]; clear h9
    refine ⟨rfl, _, rfl, (c_X10_returned_no μ a1 hG hl).imp ?_ (fun _ _ h => h.elim)⟩
    rintro _ _ ⟨rfl, h9⟩; rw [h9]; clear h9
    exact ⟨_, rfl, lr_thr_end hV (by decide)⟩
set_option maxHeartbeats 4000000 in
set_option maxRecDepth 100000 in
theorem st_refusal (μ : pm_Mm) (hV : lr_V μ.1) : lr_St mi_L_refusal mi_X10_refusal [.ref 0, .ref 55] [.ref 47] μ := by
  obtain ⟨g, c, n, F, hV⟩ := hV
  obtain ⟨a1, hI, a3, a4, a5, a6, a7, a8, a9, a10⟩ := id hV
  have hG := hI.1
  have hm1 := lr_mh hG; have hm2 := lr_mw hG; have hm3 := lr_mp hG; have hm4 := lr_mr hG; have hm5 := lr_ma hG; have hm6 := lr_ml hG
  unfold lr_St
  rcases a9 with ⟨r1, r2⟩ | ⟨r1, r2, r3⟩
  · refine c_L_refusal μ (c_X9_refusal_no μ a3 hG r2) _ (fun _ _ h => h.elim) ?_
    rintro _ _ ⟨rfl, h9⟩; rw [h9]; clear h9
    refine ⟨rfl, _, rfl, (c_X10_refusal_no μ r1).imp ?_ (fun _ _ h => h.elim)⟩
    rintro _ _ ⟨rfl, h9⟩; rw [h9]; clear h9
    exact ⟨_, rfl, lr_thr_end hV (by decide)⟩
  · refine c_L_refusal μ (c_X9_refusal μ a3 hG r3) _ ?_ (fun _ _ h => h.elim)
    rintro _ _ ⟨rfl, h9⟩; rw [h9]; clear h9
    refine ⟨_, rfl, _, rfl, (c_X10_refusal (pm_setL μ 0 _) r1).imp ?_ (fun _ _ h => h.elim)⟩
    rintro _ _ ⟨rfl, h9⟩
    rw [show ((pm_setL μ 0 (μ.1 0 6).toInt64).1 47 6) = μ.1 0 6 from r2.symm]
    rw [h9]; clear h9
    exact ⟨_, rfl, lr_read_end hV⟩
set_option maxHeartbeats 4000000 in
set_option maxRecDepth 100000 in
theorem st_pass (x0 : Int32) (μ : pm_Mm) (hV : lr_V μ.1) : lr_St mi_L_pass mi_X10_pass [.ref 0, .int x0, .ref 55] [.ref 47, .int x0] μ := by
  obtain ⟨g, c, n, F, hV⟩ := hV
  obtain ⟨a1, hI, a3, a4, a5, a6, a7, a8, a9, a10⟩ := id hV
  have hG := hI.1
  have hm1 := lr_mh hG; have hm2 := lr_mw hG; have hm3 := lr_mp hG; have hm4 := lr_mr hG; have hm5 := lr_ma hG; have hm6 := lr_ml hG
  unfold lr_St
  rcases Bool.eq_false_or_eq_true (lr_in x0 1 60) with hl | hl
  · have hl2 := hl
    obtain ⟨K, rfl, hk1, hK⟩ := lr_in_nat (lo := 1) (hi := 60) (by decide) (by decide) hl2
    have hmT := lr_mT hG
    by_cases hT : lr_n g 0 + K ≤ 365
    · refine c_L_pass μ (c_X9_pass μ a3 hG hI hl hK hT a4) _ ?_ (fun _ _ h => h.elim)
      rintro _ M ⟨rfl, b1, b2, b3⟩
      refine ⟨_, rfl, _, rfl, (c_X10_pass (pm_setL M 0 _) ((b1.1 48 (by omega)).trans a1) hG ((congrFun (b1.1 47 (by omega)) 5).trans a5.1) a4.1 hI hl hK hT).imp ?_ (fun _ _ h => h.elim)⟩
      rintro _ M2 ⟨rfl, d1, d2⟩
      exact ⟨_, rfl, lr_put_end hV b1 b2 b3 d1 d2 (lr_days_I hI K hT).1⟩
    · have hy : 365 < nI (lr_n g 0) + nI K := by rw [show nI (lr_n g 0) + nI K = nI (lr_n g 0 + K) from (Int32.ofNat_add _ _).symm]; exact (nJ_lt (a := 365) (by decide) (by omega)).mpr (by omega)
      refine c_L_pass μ (c_X9_pass_no1b μ a3 hG hl hy) _ (fun _ _ h => h.elim) ?_
      rintro _ _ ⟨rfl, h9⟩; rw [h9]; clear h9
      refine ⟨rfl, _, rfl, (c_X10_pass_no1b μ a1 hG hl hy).imp ?_ (fun _ _ h => h.elim)⟩
      rintro _ _ ⟨rfl, h9⟩; rw [h9]; clear h9
      exact ⟨_, rfl, lr_thr_end hV (by decide)⟩
  · refine c_L_pass μ (c_X9_pass_no1 μ a3 hG hl) _ (fun _ _ h => h.elim) ?_
    rintro _ _ ⟨rfl, h9⟩; rw [h9]; clear h9
    refine ⟨rfl, _, rfl, (c_X10_pass_no1 μ a1 hG hl).imp ?_ (fun _ _ h => h.elim)⟩
    rintro _ _ ⟨rfl, h9⟩; rw [h9]; clear h9
    exact ⟨_, rfl, lr_thr_end hV (by decide)⟩
set_option maxHeartbeats 4000000 in
set_option maxRecDepth 100000 in
theorem st_daysLeft (x0 : Int32) (μ : pm_Mm) (hV : lr_V μ.1) : lr_St mi_L_daysLeft mi_X10_daysLeft [.ref 0, .int x0, .ref 55] [.ref 47, .int x0] μ := by
  obtain ⟨g, c, n, F, hV⟩ := hV
  obtain ⟨a1, hI, a3, a4, a5, a6, a7, a8, a9, a10⟩ := id hV
  have hG := hI.1
  have hm1 := lr_mh hG; have hm2 := lr_mw hG; have hm3 := lr_mp hG; have hm4 := lr_mr hG; have hm5 := lr_ma hG; have hm6 := lr_ml hG
  unfold lr_St
  rcases Bool.eq_false_or_eq_true (lr_be x0 (nI (lr_n g 289))) with hb | hb
  · obtain ⟨h, hh, rfl⟩ := lr_be_t (by omega) hb
    by_cases hw : g (294 + 11 * h) = 0
    · have hmT := lr_mT hG
      obtain ⟨t, ht, ht2⟩ := hI.2.2.2.2 h hh hw
      have he := lr_fcs_lft hI hh (365 - lr_n g 0) 0 t (by omega) hw ht ht2 (fun _ _ _ => rfl)
      by_cases hs : lr_fcs g h (365 - lr_n g 0) 0 t = -1
      · refine c_L_daysLeft μ (c_X9_daysLeft_no3 μ a3 hG hh hw ht ht2 hs) _ (fun _ _ h => h.elim) ?_
        rintro _ _ ⟨rfl, h9⟩; rw [h9]; clear h9
        refine (Or.inr (Or.inr ⟨rfl, _, rfl, (c_X10_daysLeft μ a1 hG hh hI hw).imp ?_ (fun _ _ h => h.elim)⟩))
        rintro _ _ ⟨rfl, h9⟩
        rw [if_pos (he.symm.trans hs)] at h9
        exact ⟨_, rfl, lr_fs_thr_end hV (by decide) h9⟩
      · refine c_L_daysLeft μ (c_X9_daysLeft μ a3 hG hh hw ht ht2 hs) _ ?_ (fun _ _ h => h.elim)
        rintro _ _ ⟨rfl, h9⟩; rw [h9]; clear h9
        refine ⟨_, rfl, _, rfl, (c_X10_daysLeft (pm_setL μ 0 _) a1 hG hh hI hw).imp ?_ (fun _ _ h => h.elim)⟩
        rintro _ _ ⟨rfl, h9⟩
        rw [if_neg (fun q => hs (he.trans q))] at h9
        rw [if_neg (fun q => hs (he.trans q)), ← he]
        exact ⟨_, rfl, lr_fs_read_end hV h9⟩
    · refine c_L_daysLeft μ (c_X9_daysLeft_no2 μ a3 hG hh hw) _ (fun _ _ h => h.elim) ?_
      rintro _ _ ⟨rfl, h9⟩; rw [h9]; clear h9
      refine (Or.inr (Or.inl ⟨rfl, _, rfl, (c_X10_daysLeft_no2 μ a1 hG hh hw).imp ?_ (fun _ _ h => h.elim)⟩))
      rintro _ _ ⟨rfl, h9⟩; rw [h9]; clear h9
      exact ⟨_, rfl, lr_thr_end hV (by decide)⟩
  · refine c_L_daysLeft μ (c_X9_daysLeft_no1 μ a3 hG hb) _ (fun _ _ h => h.elim) ?_
    rintro _ _ ⟨rfl, h9⟩; rw [h9]; clear h9
    refine (Or.inl ⟨rfl, _, rfl, (c_X10_daysLeft_no1 μ a1 hG hb).imp ?_ (fun _ _ h => h.elim)⟩)
    rintro _ _ ⟨rfl, h9⟩; rw [h9]; clear h9
    exact ⟨_, rfl, lr_thr_end hV (by decide)⟩
set_option maxHeartbeats 4000000 in
set_option maxRecDepth 100000 in
theorem st_addLetter_0 (x0 x1 : Int32) (μ : pm_Mm) (hV : lr_V μ.1) : lr_St mi_L_addLetter mi_X10_addLetter [.ref 0, .int x0, .int x1, .int 0, .ref 55] [.ref 47, .int x0, .int x1, .int 0] μ := by
  obtain ⟨g, c, n, F, hV⟩ := hV
  obtain ⟨a1, hI, a3, a4, a5, a6, a7, a8, a9, a10⟩ := id hV
  have hG := hI.1
  have hm1 := lr_mh hG; have hm2 := lr_mw hG; have hm3 := lr_mp hG; have hm4 := lr_mr hG; have hm5 := lr_ma hG; have hm6 := lr_ml hG
  unfold lr_St
  rcases Bool.eq_false_or_eq_true (lr_be x0 (nI (lr_n g 35))) with hb | hb
  · obtain ⟨h, hh, rfl⟩ := lr_be_t (by omega) hb
    rcases Bool.eq_false_or_eq_true (lr_in x1 1 9) with hl | hl
    · by_cases hn : lr_n g 289 < 30
      · refine c_L_addLetter μ (c_X9_addLetter_y0 μ a3 hG hh hl hn a4) _ ?_ (fun _ _ h => h.elim)
        rintro _ M ⟨rfl, b1, b2, b3⟩
        refine ⟨_, rfl, _, rfl, (c_X10_addLetter_y0 (pm_setL M 0 _) ((b1.1 48 (by omega)).trans a1) hG ((congrFun (b1.1 47 (by omega)) 5).trans a5.1) a4.1 hh hl hn).imp ?_ (fun _ _ h => h.elim)⟩
        rintro _ M2 ⟨rfl, d1, d2⟩
        exact ⟨_, rfl, lr_put_end hV b1 b2 b3 d1 d2 (hI.l hn (lr_glet_ok hG hn (x := (nI h, x1, 0)) hb ⟨lr_in_nat (lo := 1) (hi := 9) (by decide) (by decide) hl, Or.inl rfl⟩))⟩
      · refine c_L_addLetter μ (c_X9_addLetter_no3 _ μ a3 hG hh hl (by omega)) _ (fun _ _ h => h.elim) ?_
        rintro _ _ ⟨rfl, h9⟩; rw [h9]; clear h9
        refine (Or.inr (Or.inr ⟨rfl, _, rfl, (c_X10_addLetter_no3 _ (pm_set μ 0 6 1) ((pm_set_off (by decide)).trans a1) hG hh hl (by omega)).imp ?_ (fun _ _ h => h.elim)⟩))
        rintro _ _ ⟨rfl, h9⟩; rw [h9]; clear h9
        exact ⟨_, rfl, lr_ref_end hV (by decide) (by decide) (by decide)⟩
    · refine c_L_addLetter μ (c_X9_addLetter_no2 _ μ a3 hG hh hl) _ (fun _ _ h => h.elim) ?_
      rintro _ _ ⟨rfl, h9⟩; rw [h9]; clear h9
      refine (Or.inr (Or.inl ⟨rfl, _, rfl, (c_X10_addLetter_no2 _ μ a1 hG hh hl).imp ?_ (fun _ _ h => h.elim)⟩))
      rintro _ _ ⟨rfl, h9⟩; rw [h9]; clear h9
      exact ⟨_, rfl, lr_thr_end hV (by decide)⟩
  · refine c_L_addLetter μ (c_X9_addLetter_no1 _ _ μ a3 hG hb) _ (fun _ _ h => h.elim) ?_
    rintro _ _ ⟨rfl, h9⟩; rw [h9]; clear h9
    refine (Or.inl ⟨rfl, _, rfl, (c_X10_addLetter_no1 _ _ μ a1 hG hb).imp ?_ (fun _ _ h => h.elim)⟩)
    rintro _ _ ⟨rfl, h9⟩; rw [h9]; clear h9
    exact ⟨_, rfl, lr_thr_end hV (by decide)⟩
set_option maxHeartbeats 4000000 in
set_option maxRecDepth 100000 in
theorem st_addLetter_1 (x0 x1 : Int32) (μ : pm_Mm) (hV : lr_V μ.1) : lr_St mi_L_addLetter mi_X10_addLetter [.ref 0, .int x0, .int x1, .int 1, .ref 55] [.ref 47, .int x0, .int x1, .int 1] μ := by
  obtain ⟨g, c, n, F, hV⟩ := hV
  obtain ⟨a1, hI, a3, a4, a5, a6, a7, a8, a9, a10⟩ := id hV
  have hG := hI.1
  have hm1 := lr_mh hG; have hm2 := lr_mw hG; have hm3 := lr_mp hG; have hm4 := lr_mr hG; have hm5 := lr_ma hG; have hm6 := lr_ml hG
  unfold lr_St
  rcases Bool.eq_false_or_eq_true (lr_be x0 (nI (lr_n g 35))) with hb | hb
  · obtain ⟨h, hh, rfl⟩ := lr_be_t (by omega) hb
    rcases Bool.eq_false_or_eq_true (lr_in x1 1 9) with hl | hl
    · by_cases hn : lr_n g 289 < 30
      · refine c_L_addLetter μ (c_X9_addLetter_y1 μ a3 hG hh hl hn a4) _ ?_ (fun _ _ h => h.elim)
        rintro _ M ⟨rfl, b1, b2, b3⟩
        refine ⟨_, rfl, _, rfl, (c_X10_addLetter_y1 (pm_setL M 0 _) ((b1.1 48 (by omega)).trans a1) hG ((congrFun (b1.1 47 (by omega)) 5).trans a5.1) a4.1 hh hl hn).imp ?_ (fun _ _ h => h.elim)⟩
        rintro _ M2 ⟨rfl, d1, d2⟩
        exact ⟨_, rfl, lr_put_end hV b1 b2 b3 d1 d2 (hI.l hn (lr_glet_ok hG hn (x := (nI h, x1, 1)) hb ⟨lr_in_nat (lo := 1) (hi := 9) (by decide) (by decide) hl, Or.inr rfl⟩))⟩
      · refine c_L_addLetter μ (c_X9_addLetter_no3 _ μ a3 hG hh hl (by omega)) _ (fun _ _ h => h.elim) ?_
        rintro _ _ ⟨rfl, h9⟩; rw [h9]; clear h9
        refine (Or.inr (Or.inr ⟨rfl, _, rfl, (c_X10_addLetter_no3 _ (pm_set μ 0 6 1) ((pm_set_off (by decide)).trans a1) hG hh hl (by omega)).imp ?_ (fun _ _ h => h.elim)⟩))
        rintro _ _ ⟨rfl, h9⟩; rw [h9]; clear h9
        exact ⟨_, rfl, lr_ref_end hV (by decide) (by decide) (by decide)⟩
    · refine c_L_addLetter μ (c_X9_addLetter_no2 _ μ a3 hG hh hl) _ (fun _ _ h => h.elim) ?_
      rintro _ _ ⟨rfl, h9⟩; rw [h9]; clear h9
      refine (Or.inr (Or.inl ⟨rfl, _, rfl, (c_X10_addLetter_no2 _ μ a1 hG hh hl).imp ?_ (fun _ _ h => h.elim)⟩))
      rintro _ _ ⟨rfl, h9⟩; rw [h9]; clear h9
      exact ⟨_, rfl, lr_thr_end hV (by decide)⟩
  · refine c_L_addLetter μ (c_X9_addLetter_no1 _ _ μ a3 hG hb) _ (fun _ _ h => h.elim) ?_
    rintro _ _ ⟨rfl, h9⟩; rw [h9]; clear h9
    refine (Or.inl ⟨rfl, _, rfl, (c_X10_addLetter_no1 _ _ μ a1 hG hb).imp ?_ (fun _ _ h => h.elim)⟩)
    rintro _ _ ⟨rfl, h9⟩; rw [h9]; clear h9
    exact ⟨_, rfl, lr_thr_end hV (by decide)⟩
