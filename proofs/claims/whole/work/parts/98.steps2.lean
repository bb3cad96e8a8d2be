/-! more steps of the law -/
theorem lr_hold_I {g : Nat → Int32} (hI : lr_I g) {h : Nat} (hh : h < lr_n g 35) {y : Int32} (hl : lr_in y (-1) 365 = true) : lr_I (upd g (37 + 4 * h) y) := by
  refine hI.u hh (fun x a b d => upd_ne a) ?_ ?_
  · rw [upd_eq]
    by_cases e : y = -1
    · exact ⟨0, by rw [e]; rfl, by omega⟩
    · have h0 : lr_in y (nI 0) (nI 365) = true := by
        unfold lr_in at hl ⊢
        simp only [Bool.and_eq_true, Bool.not_eq_true', decide_eq_false_iff_not] at hl ⊢
        refine ⟨fun c => e ?_, hl.2⟩
        have h1 := hl.1
        rw [Int32.lt_iff_toInt_lt] at h1
        have c1 := Int32.lt_iff_toInt_lt.mp c
        rw [show (-1 : Int32).toInt = -1 from rfl] at h1
        rw [show (nI 0).toInt = 0 from rfl] at c1
        exact Int32.toInt_inj.mp (by rw [show (-1 : Int32).toInt = -1 from rfl]; omega)
      obtain ⟨a, rfl, -, ha⟩ := lr_in_nat (by decide) (by decide) h0
      exact ⟨a + 1, by rw [show (1 : Int32) = nI 1 from rfl, nI_subN (by omega), Nat.add_sub_cancel], by omega⟩
  · rw [upd_ne (by omega)]; exact (lr_G_p hI.1 hh).2.2
theorem lr_lim_I {g : Nat → Int32} (hI : lr_I g) {h : Nat} (hh : h < lr_n g 35) {y : Int32} (hl : lr_in y 0 9 = true) : lr_I (upd g (38 + 4 * h) y) := by
  refine hI.u hh (fun x a b d => upd_ne b) ?_ ?_
  · rw [upd_ne (by omega)]; exact (lr_G_p hI.1 hh).2.1
  · rw [upd_eq]
    obtain ⟨a, rfl, -, ha⟩ := lr_in_nat (lo := 0) (hi := 9) (by decide) (by decide) hl
    exact ⟨a, rfl, ha⟩
theorem lr_alw_I {g : Nat → Int32} (hI : lr_I g) {h : Nat} (hh : h < lr_n g 35) {y : Int32} : lr_I (upd g (39 + 4 * h) y) := by
  refine hI.u hh (fun x a b d => upd_ne d) ?_ ?_
  · rw [upd_ne (by omega)]; exact (lr_G_p hI.1 hh).2.1
  · rw [upd_ne (by omega)]; exact (lr_G_p hI.1 hh).2.2
theorem lr_thr_end2 {μ : pm_Mm} {g : Nat → Int32} {c n : Nat} {F : Nat → Nat → Int32} {k y : Int32} (hV : lr_Vv μ.1 g c n F) (hk : ¬ k = 0) : (pm_set (pm_set μ 47 7 0) 47 7 k).1 47 7 = k ∧ (k = 0 → (pm_set (pm_set μ 47 7 0) 47 7 k).2.1 0 = y.toInt64) ∧ lr_V (pm_set (pm_set μ 47 7 0) 47 7 k).1 :=
  ⟨by rw [pm_set_at]; unfold upd; simp, fun h => absurd h hk, _, _, _, _, hV.same (fun i h1 h2 => by rw [pm_set_off h1, pm_set_off h1]) (fun j h1 => by rw [pm_set_miss (Or.inr h1), pm_set_miss (Or.inr h1)])⟩
set_option maxHeartbeats 4000000 in
set_option maxRecDepth 100000 in
theorem st_hold (x0 x1 : Int32) (μ : pm_Mm) (hV : lr_V μ.1) : lr_St mi_L_hold mi_X10_hold [.ref 0, .int x0, .int x1, .ref 55] [.ref 47, .int x0, .int x1] μ := by
  obtain ⟨g, c, n, F, hV⟩ := hV
  obtain ⟨a1, hI, a3, a4, a5, a6, a7, a8, a9, a10⟩ := id hV
  have hG := hI.1
  have hm1 := lr_mh hG; have hm2 := lr_mw hG; have hm3 := lr_mp hG; have hm4 := lr_mr hG; have hm5 := lr_ma hG; have hm6 := lr_ml hG
  unfold lr_St
  rcases Bool.eq_false_or_eq_true (lr_be x0 (nI (lr_n g 35))) with hb | hb
  · obtain ⟨h, hh, rfl⟩ := lr_be_t (by omega) hb
    rcases Bool.eq_false_or_eq_true (lr_in x1 (-1) 365) with hl | hl
    · refine c_L_hold μ (c_X9_hold μ a3 hG hh hl a4) _ ?_ (fun _ _ h => h.elim)
      rintro _ M ⟨rfl, b1, b2, b3⟩
      refine ⟨_, rfl, _, rfl, (c_X10_hold (pm_setL M 0 _) ((b1.1 48 (by omega)).trans a1) hG ((congrFun (b1.1 47 (by omega)) 5).trans a5.1) a4.1 hh hl).imp ?_ (fun _ _ h => h.elim)⟩
      rintro _ M2 ⟨rfl, d1, d2⟩
      exact ⟨_, rfl, lr_put_end hV b1 b2 b3 d1 d2 (lr_hold_I hI hh hl)⟩
    · refine c_L_hold μ (c_X9_hold_no2 μ a3 hG hh hl) _ (fun _ _ h => h.elim) ?_
      rintro _ _ ⟨rfl, h9⟩; rw [h9]; clear h9
      refine (Or.inr ⟨rfl, _, rfl, (c_X10_hold_no2 μ a1 hG hh hl).imp ?_ (fun _ _ h => h.elim)⟩)
      rintro _ _ ⟨rfl, h9⟩; rw [h9]; clear h9
      exact ⟨_, rfl, lr_thr_end hV (by decide)⟩
  · refine c_L_hold μ (c_X9_hold_no1 _ μ a3 hG hb) _ (fun _ _ h => h.elim) ?_
    rintro _ _ ⟨rfl, h9⟩; rw [h9]; clear h9
    refine (Or.inl ⟨rfl, _, rfl, (c_X10_hold_no1 _ μ a1 hG hb).imp ?_ (fun _ _ h => h.elim)⟩)
    rintro _ _ ⟨rfl, h9⟩; rw [h9]; clear h9
    exact ⟨_, rfl, lr_thr_end hV (by decide)⟩
set_option maxHeartbeats 4000000 in
set_option maxRecDepth 100000 in
theorem st_setLimit (x0 x1 : Int32) (μ : pm_Mm) (hV : lr_V μ.1) : lr_St mi_L_setLimit mi_X10_setLimit [.ref 0, .int x0, .int x1, .ref 55] [.ref 47, .int x0, .int x1] μ := by
  obtain ⟨g, c, n, F, hV⟩ := hV
  obtain ⟨a1, hI, a3, a4, a5, a6, a7, a8, a9, a10⟩ := id hV
  have hG := hI.1
  have hm1 := lr_mh hG; have hm2 := lr_mw hG; have hm3 := lr_mp hG; have hm4 := lr_mr hG; have hm5 := lr_ma hG; have hm6 := lr_ml hG
  unfold lr_St
  rcases Bool.eq_false_or_eq_true (lr_be x0 (nI (lr_n g 35))) with hb | hb
  · obtain ⟨h, hh, rfl⟩ := lr_be_t (by omega) hb
    rcases Bool.eq_false_or_eq_true (lr_in x1 0 9) with hl | hl
    · refine c_L_setLimit μ (c_X9_setLimit μ a3 hG hh hl a4) _ ?_ (fun _ _ h => h.elim)
      rintro _ M ⟨rfl, b1, b2, b3⟩
      refine ⟨_, rfl, _, rfl, (c_X10_setLimit (pm_setL M 0 _) ((b1.1 48 (by omega)).trans a1) hG ((congrFun (b1.1 47 (by omega)) 5).trans a5.1) a4.1 hh hl).imp ?_ (fun _ _ h => h.elim)⟩
      rintro _ M2 ⟨rfl, d1, d2⟩
      exact ⟨_, rfl, lr_put_end hV b1 b2 b3 d1 d2 (lr_lim_I hI hh hl)⟩
    · refine c_L_setLimit μ (c_X9_setLimit_no2 μ a3 hG hh hl) _ (fun _ _ h => h.elim) ?_
      rintro _ _ ⟨rfl, h9⟩; rw [h9]; clear h9
      refine (Or.inr ⟨rfl, _, rfl, (c_X10_setLimit_no2 μ a1 hG hh hl).imp ?_ (fun _ _ h => h.elim)⟩)
      rintro _ _ ⟨rfl, h9⟩; rw [h9]; clear h9
      exact ⟨_, rfl, lr_thr_end hV (by decide)⟩
  · refine c_L_setLimit μ (c_X9_setLimit_no1 _ μ a3 hG hb) _ (fun _ _ h => h.elim) ?_
    rintro _ _ ⟨rfl, h9⟩; rw [h9]; clear h9
    refine (Or.inl ⟨rfl, _, rfl, (c_X10_setLimit_no1 _ μ a1 hG hb).imp ?_ (fun _ _ h => h.elim)⟩)
    rintro _ _ ⟨rfl, h9⟩; rw [h9]; clear h9
    exact ⟨_, rfl, lr_thr_end hV (by decide)⟩
set_option maxHeartbeats 4000000 in
set_option maxRecDepth 100000 in
theorem st_residents (x0 x1 x2 : Int32) (μ : pm_Mm) (hV : lr_V μ.1) : lr_St mi_L_residents mi_X10_residents [.ref 0, .int x0, .int x1, .int x2, .ref 55] [.ref 47, .int x0, .int x1, .int x2] μ := by
  obtain ⟨g, c, n, F, hV⟩ := hV
  obtain ⟨a1, hI, a3, a4, a5, a6, a7, a8, a9, a10⟩ := id hV
  have hG := hI.1
  have hm1 := lr_mh hG; have hm2 := lr_mw hG; have hm3 := lr_mp hG; have hm4 := lr_mr hG; have hm5 := lr_ma hG; have hm6 := lr_ml hG
  unfold lr_St
  rcases Bool.eq_false_or_eq_true (lr_be x0 (nI (lr_n g 2))) with hb | hb
  · obtain ⟨h, hh, rfl⟩ := lr_be_t (by omega) hb
    rcases Bool.eq_false_or_eq_true (lr_be x1 (nI (lr_n g 2))) with hb2 | hb2
    · obtain ⟨q, hq, rfl⟩ := lr_be_t (by omega) hb2
      rcases Bool.eq_false_or_eq_true (lr_in x2 0 365) with hl | hl
      · have hl2 := hl
        obtain ⟨d, rfl, -, hd⟩ := lr_in_nat (lo := 0) (hi := 365) (by decide) (by decide) hl2
        refine c_L_residents μ (c_X9_residents μ a3 hG hh hq hl) _ ?_ (fun _ _ h => h.elim)
        rintro _ _ ⟨rfl, h9⟩; rw [h9]; clear h9
        refine ⟨_, rfl, _, rfl, (c_X10_residents (pm_setL μ 0 _) a1 hG hh hq hI.2.1 rfl hd).imp ?_ (fun _ _ h => h.elim)⟩
        rintro _ _ ⟨rfl, h9⟩; rw [h9]; clear h9
        exact ⟨_, rfl, lr_read_end hV⟩
      · refine c_L_residents μ (c_X9_residents_no2 μ a3 hG hh hq hl) _ (fun _ _ h => h.elim) ?_
        rintro _ _ ⟨rfl, h9⟩; rw [h9]; clear h9
        refine (Or.inr ⟨rfl, _, rfl, (c_X10_residents_no2 μ a1 hG hh hq hl).imp ?_ (fun _ _ h => h.elim)⟩)
        rintro _ _ ⟨rfl, h9⟩; rw [h9]; clear h9
        exact ⟨_, rfl, lr_thr_end hV (by decide)⟩
    · refine c_L_residents μ (c_X9_residents_no1b _ μ a3 hG hh hb2) _ (fun _ _ h => h.elim) ?_
      rintro _ _ ⟨rfl, h9⟩; rw [h9]; clear h9
      refine (Or.inl ⟨rfl, _, rfl, (c_X10_residents_no1b _ μ a1 hG hh hb2).imp ?_ (fun _ _ h => h.elim)⟩)
      rintro _ _ ⟨rfl, h9⟩; rw [h9]; clear h9
      exact ⟨_, rfl, lr_thr_end hV (by decide)⟩
  · refine c_L_residents μ (c_X9_residents_no1 _ _ μ a3 hG hb) _ (fun _ _ h => h.elim) ?_
    rintro _ _ ⟨rfl, h9⟩; rw [h9]; clear h9
    refine (Or.inl ⟨rfl, _, rfl, (c_X10_residents_no1 _ _ μ a1 hG hb).imp ?_ (fun _ _ h => h.elim)⟩)
    rintro _ _ ⟨rfl, h9⟩; rw [h9]; clear h9
    exact ⟨_, rfl, lr_thr_end hV (by decide)⟩
set_option maxHeartbeats 4000000 in
set_option maxRecDepth 100000 in
theorem st_leave (x0 x1 x2 : Int32) (μ : pm_Mm) (hV : lr_V μ.1) : lr_St mi_L_leave mi_X10_leave [.ref 0, .int x0, .int x1, .int x2, .ref 55] [.ref 47, .int x0, .int x1, .int x2] μ := by
  obtain ⟨g, c, n, F, hV⟩ := hV
  obtain ⟨a1, hI, a3, a4, a5, a6, a7, a8, a9, a10⟩ := id hV
  have hG := hI.1
  have hm1 := lr_mh hG; have hm2 := lr_mw hG; have hm3 := lr_mp hG; have hm4 := lr_mr hG; have hm5 := lr_ma hG; have hm6 := lr_ml hG
  unfold lr_St
  rcases Bool.eq_false_or_eq_true (lr_be x0 (nI (lr_n g 35))) with hb | hb
  · obtain ⟨h, hh, rfl⟩ := lr_be_t (by omega) hb
    rcases Bool.eq_false_or_eq_true (lr_dys x1 x2) with hl | hl
    · by_cases hn : lr_n g 228 = 20
      · have e20 : lr_gabs2 g (nI h) x1 x2 228 = nI 20 := by rw [lr_gabs2_n (by omega), hn]; rfl
        refine c_L_leave μ (c_X9_leave μ a3 hG hh hl a4) _ ?_ (fun _ _ h => h.elim)
        rintro _ M ⟨rfl, b1, b2, b3⟩
        refine ⟨_, rfl, _, rfl, (c_X10_leave_full (pm_setL M 0 _) ((b1.1 48 (by omega)).trans a1) hG ((congrFun (b1.1 47 (by omega)) 5).trans a5.1) a4.1 hh hl hn).imp ?_ (fun _ _ h => h.elim)⟩
        rintro _ M2 ⟨rfl, d1, d2⟩
        rw [e20] at d1
        exact ⟨_, rfl, lr_put_end hV b1 b2 b3 d1 d2 hI.a⟩
      · have e20 : lr_gabs2 g (nI h) x1 x2 228 = nI (lr_n g 228 + 1) := by rw [lr_gabs2_n (by omega), show min (lr_n g 228 + 1) 20 = lr_n g 228 + 1 by omega]
        have e21 : lr_gabs g (nI h) x1 x2 = lr_gabs2 g (nI h) x1 x2 := by unfold lr_gabs2; rw [if_neg hn]
        refine c_L_leave μ (c_X9_leave μ a3 hG hh hl a4) _ ?_ (fun _ _ h => h.elim)
        rintro _ M ⟨rfl, b1, b2, b3⟩
        refine ⟨_, rfl, _, rfl, (c_X10_leave_lt (pm_setL M 0 _) ((b1.1 48 (by omega)).trans a1) hG ((congrFun (b1.1 47 (by omega)) 5).trans a5.1) a4.1 hh hl (by omega)).imp ?_ (fun _ _ h => h.elim)⟩
        rintro _ M2 ⟨rfl, d1, d2⟩
        rw [e20] at d1
        rw [e21] at d2
        exact ⟨_, rfl, lr_put_end hV b1 b2 b3 d1 d2 hI.a⟩
    · refine c_L_leave μ (c_X9_leave_no2 μ a3 hG hh hl) _ (fun _ _ h => h.elim) ?_
      rintro _ _ ⟨rfl, h9⟩; rw [h9]; clear h9
      refine (Or.inr ⟨rfl, _, rfl, (c_X10_leave_no2 μ a1 hG hh hl).imp ?_ (fun _ _ h => h.elim)⟩)
      rintro _ _ ⟨rfl, h9⟩; rw [h9]; clear h9
      exact ⟨_, rfl, lr_thr_end hV (by decide)⟩
  · refine c_L_leave μ (c_X9_leave_no1 _ _ μ a3 hG hb) _ (fun _ _ h => h.elim) ?_
    rintro _ _ ⟨rfl, h9⟩; rw [h9]; clear h9
    refine (Or.inl ⟨rfl, _, rfl, (c_X10_leave_no1 _ _ μ a1 hG hb).imp ?_ (fun _ _ h => h.elim)⟩)
    rintro _ _ ⟨rfl, h9⟩; rw [h9]; clear h9
    exact ⟨_, rfl, lr_thr_end hV (by decide)⟩
set_option maxHeartbeats 4000000 in
set_option maxRecDepth 100000 in
theorem st_stop (x0 x1 : Int32) (μ : pm_Mm) (hV : lr_V μ.1) : lr_St mi_L_stop mi_X10_stop [.ref 0, .int x0, .int x1, .ref 55] [.ref 47, .int x0, .int x1] μ := by
  obtain ⟨g, c, n, F, hV⟩ := hV
  obtain ⟨a1, hI, a3, a4, a5, a6, a7, a8, a9, a10⟩ := id hV
  have hG := hI.1
  have hm1 := lr_mh hG; have hm2 := lr_mw hG; have hm3 := lr_mp hG; have hm4 := lr_mr hG; have hm5 := lr_ma hG; have hm6 := lr_ml hG
  unfold lr_St
  rcases Bool.eq_false_or_eq_true (lr_be x0 (nI (lr_n g 116))) with hb | hb
  · obtain ⟨h, hh, rfl⟩ := lr_be_t (by omega) (id hb)
    have he := lr_hso_eq (g := g) (u := h) (by omega) x1
    by_cases hs : lr_hso g (nI h) x1 = -1
    · refine c_L_stop μ (c_X9_stop_no2 μ a3 hG hb hs) _ (fun _ _ h => h.elim) ?_
      rintro _ _ ⟨rfl, h9⟩; rw [h9]; clear h9
      refine (Or.inr ⟨rfl, _, rfl, (c_X10_stop μ a1 hG hh).imp ?_ (fun _ _ h => h.elim)⟩)
      rintro _ _ ⟨rfl, h9⟩
      rw [if_pos (he.symm.trans hs)] at h9
      rw [h9]; clear h9
      exact ⟨_, rfl, lr_thr_end2 hV (by decide)⟩
    · refine c_L_stop μ (c_X9_stop μ a3 hG hb hs) _ ?_ (fun _ _ h => h.elim)
      rintro _ _ ⟨rfl, h9⟩; rw [h9]; clear h9
      refine ⟨_, rfl, _, rfl, (c_X10_stop (pm_setL μ 0 _) a1 hG hh).imp ?_ (fun _ _ h => h.elim)⟩
      rintro _ _ ⟨rfl, h9⟩
      have hs2 := hs
      rw [he] at hs2
      rw [if_neg hs2] at h9
      rw [if_neg hs2, ← he]
      rw [h9]; clear h9
      exact ⟨_, rfl, lr_read_end hV⟩
  · refine c_L_stop μ (c_X9_stop_no1 _ μ a3 hG hb) _ (fun _ _ h => h.elim) ?_
    rintro _ _ ⟨rfl, h9⟩; rw [h9]; clear h9
    refine (Or.inl ⟨rfl, _, rfl, (c_X10_stop_no1 _ μ a1 hG hb).imp ?_ (fun _ _ h => h.elim)⟩)
    rintro _ _ ⟨rfl, h9⟩; rw [h9]; clear h9
    exact ⟨_, rfl, lr_thr_end hV (by decide)⟩
set_option maxHeartbeats 4000000 in
set_option maxRecDepth 100000 in
theorem st_letter (x0 x1 : Int32) (μ : pm_Mm) (hV : lr_V μ.1) : lr_St mi_L_letter mi_X10_letter [.ref 0, .int x0, .int x1, .ref 55] [.ref 47, .int x0, .int x1] μ := by
  obtain ⟨g, c, n, F, hV⟩ := hV
  obtain ⟨a1, hI, a3, a4, a5, a6, a7, a8, a9, a10⟩ := id hV
  have hG := hI.1
  have hm1 := lr_mh hG; have hm2 := lr_mw hG; have hm3 := lr_mp hG; have hm4 := lr_mr hG; have hm5 := lr_ma hG; have hm6 := lr_ml hG
  unfold lr_St
  rcases Bool.eq_false_or_eq_true (lr_be x0 (nI (lr_n g 289))) with hb | hb
  · obtain ⟨h, hh, rfl⟩ := lr_be_t (by omega) hb
    rcases Bool.eq_false_or_eq_true (lr_in x1 0 10) with hl | hl
    · have hl2 := hl
      obtain ⟨k, rfl, -, hk⟩ := lr_in_nat (lo := 0) (hi := 10) (by decide) (by decide) hl2
      rcases (show k = 0 ∨ k = 1 ∨ k = 2 ∨ k = 3 ∨ k = 4 ∨ k = 5 ∨ k = 6 ∨ k = 7 ∨ k = 8 ∨ k = 9 ∨ k = 10 by omega) with rfl | rfl | rfl | rfl | rfl | rfl | rfl | rfl | rfl | rfl | rfl
      · refine c_L_letter μ (c_X9_letter_0 μ a3 hG hh) _ ?_ (fun _ _ h => h.elim)
        rintro _ _ ⟨rfl, h9⟩; rw [h9]; clear h9
        refine ⟨_, rfl, _, rfl, (c_X10_letter (k := 0) (pm_setL μ 0 _) a1 hG hh (by decide)).imp ?_ (fun _ _ h => h.elim)⟩
        rintro _ _ ⟨rfl, h9⟩
        rw [show 290 + 11 * h + 0 = 290 + 11 * h by omega]
        rw [h9]; clear h9
        exact ⟨_, rfl, lr_read_end hV⟩
      · refine c_L_letter μ (c_X9_letter_1 μ a3 hG hh) _ ?_ (fun _ _ h => h.elim)
        rintro _ _ ⟨rfl, h9⟩; rw [h9]; clear h9
        refine ⟨_, rfl, _, rfl, (c_X10_letter (k := 1) (pm_setL μ 0 _) a1 hG hh (by decide)).imp ?_ (fun _ _ h => h.elim)⟩
        rintro _ _ ⟨rfl, h9⟩
        rw [show 290 + 11 * h + 1 = 291 + 11 * h by omega]
        rw [h9]; clear h9
        exact ⟨_, rfl, lr_read_end hV⟩
      · refine c_L_letter μ (c_X9_letter_2 μ a3 hG hh) _ ?_ (fun _ _ h => h.elim)
        rintro _ _ ⟨rfl, h9⟩; rw [h9]; clear h9
        refine ⟨_, rfl, _, rfl, (c_X10_letter (k := 2) (pm_setL μ 0 _) a1 hG hh (by decide)).imp ?_ (fun _ _ h => h.elim)⟩
        rintro _ _ ⟨rfl, h9⟩
        rw [show 290 + 11 * h + 2 = 292 + 11 * h by omega]
        rw [h9]; clear h9
        exact ⟨_, rfl, lr_read_end hV⟩
      · refine c_L_letter μ (c_X9_letter_3 μ a3 hG hh) _ ?_ (fun _ _ h => h.elim)
        rintro _ _ ⟨rfl, h9⟩; rw [h9]; clear h9
        refine ⟨_, rfl, _, rfl, (c_X10_letter (k := 3) (pm_setL μ 0 _) a1 hG hh (by decide)).imp ?_ (fun _ _ h => h.elim)⟩
        rintro _ _ ⟨rfl, h9⟩
        rw [show 290 + 11 * h + 3 = 293 + 11 * h by omega]
        rw [h9]; clear h9
        exact ⟨_, rfl, lr_read_end hV⟩
      · refine c_L_letter μ (c_X9_letter_4 μ a3 hG hh) _ ?_ (fun _ _ h => h.elim)
        rintro _ _ ⟨rfl, h9⟩; rw [h9]; clear h9
        refine ⟨_, rfl, _, rfl, (c_X10_letter (k := 4) (pm_setL μ 0 _) a1 hG hh (by decide)).imp ?_ (fun _ _ h => h.elim)⟩
        rintro _ _ ⟨rfl, h9⟩
        rw [show 290 + 11 * h + 4 = 294 + 11 * h by omega]
        rw [h9]; clear h9
        exact ⟨_, rfl, lr_read_end hV⟩
      · refine c_L_letter μ (c_X9_letter_5 μ a3 hG hh) _ ?_ (fun _ _ h => h.elim)
        rintro _ _ ⟨rfl, h9⟩; rw [h9]; clear h9
        refine ⟨_, rfl, _, rfl, (c_X10_letter (k := 5) (pm_setL μ 0 _) a1 hG hh (by decide)).imp ?_ (fun _ _ h => h.elim)⟩
        rintro _ _ ⟨rfl, h9⟩
        rw [show 290 + 11 * h + 5 = 295 + 11 * h by omega]
        rw [h9]; clear h9
        exact ⟨_, rfl, lr_read_end hV⟩
      · refine c_L_letter μ (c_X9_letter_6 μ a3 hG hh) _ ?_ (fun _ _ h => h.elim)
        rintro _ _ ⟨rfl, h9⟩; rw [h9]; clear h9
        refine ⟨_, rfl, _, rfl, (c_X10_letter (k := 6) (pm_setL μ 0 _) a1 hG hh (by decide)).imp ?_ (fun _ _ h => h.elim)⟩
        rintro _ _ ⟨rfl, h9⟩
        rw [show 290 + 11 * h + 6 = 296 + 11 * h by omega]
        rw [h9]; clear h9
        exact ⟨_, rfl, lr_read_end hV⟩
      · refine c_L_letter μ (c_X9_letter_7 μ a3 hG hh) _ ?_ (fun _ _ h => h.elim)
        rintro _ _ ⟨rfl, h9⟩; rw [h9]; clear h9
        refine ⟨_, rfl, _, rfl, (c_X10_letter (k := 7) (pm_setL μ 0 _) a1 hG hh (by decide)).imp ?_ (fun _ _ h => h.elim)⟩
        rintro _ _ ⟨rfl, h9⟩
        rw [show 290 + 11 * h + 7 = 297 + 11 * h by omega]
        rw [h9]; clear h9
        exact ⟨_, rfl, lr_read_end hV⟩
      · refine c_L_letter μ (c_X9_letter_8 μ a3 hG hh) _ ?_ (fun _ _ h => h.elim)
        rintro _ _ ⟨rfl, h9⟩; rw [h9]; clear h9
        refine ⟨_, rfl, _, rfl, (c_X10_letter (k := 8) (pm_setL μ 0 _) a1 hG hh (by decide)).imp ?_ (fun _ _ h => h.elim)⟩
        rintro _ _ ⟨rfl, h9⟩
        rw [show 290 + 11 * h + 8 = 298 + 11 * h by omega]
        rw [h9]; clear h9
        exact ⟨_, rfl, lr_read_end hV⟩
      · refine c_L_letter μ (c_X9_letter_9 μ a3 hG hh) _ ?_ (fun _ _ h => h.elim)
        rintro _ _ ⟨rfl, h9⟩; rw [h9]; clear h9
        refine ⟨_, rfl, _, rfl, (c_X10_letter (k := 9) (pm_setL μ 0 _) a1 hG hh (by decide)).imp ?_ (fun _ _ h => h.elim)⟩
        rintro _ _ ⟨rfl, h9⟩
        rw [show 290 + 11 * h + 9 = 299 + 11 * h by omega]
        rw [h9]; clear h9
        exact ⟨_, rfl, lr_read_end hV⟩
      · refine c_L_letter μ (c_X9_letter_10 μ a3 hG hh) _ ?_ (fun _ _ h => h.elim)
        rintro _ _ ⟨rfl, h9⟩; rw [h9]; clear h9
        refine ⟨_, rfl, _, rfl, (c_X10_letter (k := 10) (pm_setL μ 0 _) a1 hG hh (by decide)).imp ?_ (fun _ _ h => h.elim)⟩
        rintro _ _ ⟨rfl, h9⟩
        rw [show 290 + 11 * h + 10 = 300 + 11 * h by omega]
        rw [h9]; clear h9
        exact ⟨_, rfl, lr_read_end hV⟩
    · refine c_L_letter μ (c_X9_letter_no2 μ a3 hG hh hl) _ (fun _ _ h => h.elim) ?_
      rintro _ _ ⟨rfl, h9⟩; rw [h9]; clear h9
      refine (Or.inr ⟨rfl, _, rfl, (c_X10_letter_no2 μ a1 hG hh hl).imp ?_ (fun _ _ h => h.elim)⟩)
      rintro _ _ ⟨rfl, h9⟩; rw [h9]; clear h9
      exact ⟨_, rfl, lr_thr_end hV (by decide)⟩
  · refine c_L_letter μ (c_X9_letter_no1 _ μ a3 hG hb) _ (fun _ _ h => h.elim) ?_
    rintro _ _ ⟨rfl, h9⟩; rw [h9]; clear h9
    refine (Or.inl ⟨rfl, _, rfl, (c_X10_letter_no1 _ μ a1 hG hb).imp ?_ (fun _ _ h => h.elim)⟩)
    rintro _ _ ⟨rfl, h9⟩; rw [h9]; clear h9
    exact ⟨_, rfl, lr_thr_end hV (by decide)⟩
set_option maxHeartbeats 4000000 in
set_option maxRecDepth 100000 in
theorem st_signer (x0 x1 : Int32) (μ : pm_Mm) (hV : lr_V μ.1) : lr_St mi_L_signer mi_X10_signer [.ref 0, .int x0, .int x1, .ref 55] [.ref 47, .int x0, .int x1] μ := by
  obtain ⟨g, c, n, F, hV⟩ := hV
  obtain ⟨a1, hI, a3, a4, a5, a6, a7, a8, a9, a10⟩ := id hV
  have hG := hI.1
  have hm1 := lr_mh hG; have hm2 := lr_mw hG; have hm3 := lr_mp hG; have hm4 := lr_mr hG; have hm5 := lr_ma hG; have hm6 := lr_ml hG
  unfold lr_St
  rcases Bool.eq_false_or_eq_true (lr_be x0 (nI (lr_n g 35))) with hb | hb
  · obtain ⟨h, hh, rfl⟩ := lr_be_t (by omega) hb
    rcases Bool.eq_false_or_eq_true (lr_in x1 0 365) with hl | hl
    · have hl2 := hl
      obtain ⟨d, rfl, -, hd⟩ := lr_in_nat (lo := 0) (hi := 365) (by decide) (by decide) hl2
      by_cases hs : lr_sg g h (nI d) = -1
      · refine c_L_signer μ (c_X9_signer_no3 μ a3 hG hh hl hs) _ (fun _ _ h => h.elim) ?_
        rintro _ _ ⟨rfl, h9⟩; rw [h9]; clear h9
        refine (Or.inr (Or.inr ⟨rfl, _, rfl, (c_X10_signer_no3 μ a1 hG hh hI.2.1 rfl hd (by rw [hs]; decide)).imp ?_ (fun _ _ h => h.elim)⟩))
        rintro _ _ ⟨rfl, h9⟩; rw [h9]; clear h9
        exact ⟨_, rfl, lr_thr_end hV (by decide)⟩
      · have hge : 0 ≤ lr_sg g h (nI d) := (lr_sg_ok h (nI d) hh).elim (fun e => absurd e hs) (fun ⟨i, e, hi⟩ => by rw [e]; exact (nJ_le (a := 0) (b := i) (by decide) (by omega)).mpr (Nat.zero_le _))
        refine c_L_signer μ (c_X9_signer μ a3 hG hh hl hs) _ ?_ (fun _ _ h => h.elim)
        rintro _ _ ⟨rfl, h9⟩; rw [h9]; clear h9
        refine ⟨_, rfl, _, rfl, (c_X10_signer (pm_setL μ 0 _) a1 hG hh hI.2.1 rfl hd hge).imp ?_ (fun _ _ h => h.elim)⟩
        rintro _ _ ⟨rfl, h9⟩; rw [h9]; clear h9
        exact ⟨_, rfl, lr_read_end hV⟩
    · refine c_L_signer μ (c_X9_signer_no2 μ a3 hG hh hl) _ (fun _ _ h => h.elim) ?_
      rintro _ _ ⟨rfl, h9⟩; rw [h9]; clear h9
      refine (Or.inr (Or.inl ⟨rfl, _, rfl, (c_X10_signer_no2 μ a1 hG hh hl).imp ?_ (fun _ _ h => h.elim)⟩))
      rintro _ _ ⟨rfl, h9⟩; rw [h9]; clear h9
      exact ⟨_, rfl, lr_thr_end hV (by decide)⟩
  · refine c_L_signer μ (c_X9_signer_no1 _ μ a3 hG hb) _ (fun _ _ h => h.elim) ?_
    rintro _ _ ⟨rfl, h9⟩; rw [h9]; clear h9
    refine (Or.inl ⟨rfl, _, rfl, (c_X10_signer_no1 _ μ a1 hG hb).imp ?_ (fun _ _ h => h.elim)⟩)
    rintro _ _ ⟨rfl, h9⟩; rw [h9]; clear h9
    exact ⟨_, rfl, lr_thr_end hV (by decide)⟩
