/-! more steps of the law: redirects, undo -/
theorem lr_Vv.fr {μ M : pm_Mm} {g : Nat → Int32} {c n : Nat} {F : Nat → Nat → Int32} (h : lr_Vv μ.1 g c n F) (d : lr_fr μ M) (hR : lr_Rel M.1 1 g) : lr_Vv M.1 g c n F := by
  obtain ⟨a1, a2, a3, a4, a5, a6, a7, a8, a9, a10⟩ := h
  have o : ∀ i, (i = 0 ∨ 39 < i) → M.1 i = μ.1 i := d.1
  refine ⟨(o 48 (by omega)).trans a1, a2, hR, a4.fr (fun i h1 => o i (by omega)), a5.fr (by rw [o 47 (by omega)]) (o 51 (by omega)), a6, a7.fr (by rw [o 0 (by omega)]) (by rw [o 47 (by omega)]) (o 49 (by omega)) (fun i h1 h2 => o i (by omega)), ?_, a9.fr (by rw [o 0 (by omega)]) (by rw [o 47 (by omega)]), a10.fr (by rw [o 40 (by omega)]) (by rw [o 47 (by omega)]) (o 44 (by omega)) (o 53 (by omega))⟩
  rw [o 0 (by omega), o 47 (by omega)]; exact a8
/-- both sides went back to a row K -/
theorem lr_Vv.back {f f1 f2 : Nat → Nat → Int32} {g K : Nat → Int32} {c n c2 n2 : Nat} {F : Nat → Nat → Int32} (h : lr_Vv f g c n F) (hfc : ∀ i, (i = 0 ∨ (39 < i ∧ i < 96 ∧ i ≠ 45)) → f1 i = f i) (hR : lr_Rel f1 1 K) (hH : lr_Hs f1 c2 n2 F) (hm : ∀ i, i ≠ 47 → i ≠ 48 → f2 i = f1 i) (hk : ∀ k, k ≠ 5 → k ≠ 7 → f2 47 k = f1 47 k) (h5 : f2 47 5 = nI c2) (hc2 : c2 ≤ c) (h48 : ∀ x, x < 620 → f2 48 x = K x) (hI : lr_I K) : lr_Vv f2 (f2 48) c2 n2 F := by
  obtain ⟨a1, a2, a3, a4, a5, a6, a7, a8, a9, a10⟩ := h
  have o : ∀ i, (i = 0 ∨ (39 < i ∧ i < 96 ∧ i ≠ 45)) → i ≠ 47 → i ≠ 48 → f2 i = f i := fun i h1 h2 h3 => (hm i h2 h3).trans (hfc i h1)
  have o7 : ∀ k, k ≠ 5 → k ≠ 7 → f2 47 k = f 47 k := fun k h1 h2 => by rw [hk k h1 h2, hfc 47 (by omega)]
  refine ⟨rfl, hI.cg h48, (hR.fr (fun i h1 h2 => hm i (by omega) (by omega))).cg hI.1.B h48, hH.fr (fun i h1 => hm i (by omega) (by omega)), ⟨h5, fun k hk x hx => by rw [o 51 (by omega) (by decide) (by decide)]; exact a5.2 k (by omega) x hx⟩, fun k hk => a6 k (by omega), a7.fr ?_ (o7 3 (by decide) (by decide)) (o 49 (by omega) (by decide) (by decide)) (fun i h1 h2 => o i (by omega) (by omega) (by omega)), ?_, a9.fr ?_ (o7 6 (by decide) (by decide)), a10.fr ?_ (o7 11 (by decide) (by decide)) (o 44 (by omega) (by decide) (by decide)) (o 53 (by omega) (by decide) (by decide))⟩
  · rw [o 0 (by omega) (by decide) (by decide)]
  · rw [o 0 (by omega) (by decide) (by decide), o7 13 (by decide) (by decide)]; exact a8
  · rw [o 0 (by omega) (by decide) (by decide)]
  · rw [o 40 (by omega) (by decide) (by decide)]
theorem lr_undo_end {μ M : pm_Mm} {g : Nat → Int32} {c n : Nat} {F : Nat → Nat → Int32} {x : Int32} (hV : lr_Vv μ.1 g (c + 1) n F) (b1 : lr_fc μ M) (b2 : lr_Rel M.1 1 (F c)) (b3 : lr_Hs M.1 c ((n + 7) % 8) F) : (pm_row (pm_set (pm_set (pm_setL M 0 x.toInt64) 47 7 0) 47 5 (nI c)) 48 (lr_cpy ((pm_setL M 0 x.toInt64).1 51) ((pm_setL M 0 x.toInt64).1 48) (620 * c) 0 620)).1 47 7 = 0 ∧ ((0 : Int32) = 0 → (pm_row (pm_set (pm_set (pm_setL M 0 x.toInt64) 47 7 0) 47 5 (nI c)) 48 (lr_cpy ((pm_setL M 0 x.toInt64).1 51) ((pm_setL M 0 x.toInt64).1 48) (620 * c) 0 620)).2.1 0 = x.toInt64) ∧ lr_V (pm_row (pm_set (pm_set (pm_setL M 0 x.toInt64) 47 7 0) 47 5 (nI c)) 48 (lr_cpy ((pm_setL M 0 x.toInt64).1 51) ((pm_setL M 0 x.toInt64).1 48) (620 * c) 0 620)).1 := by
  refine ⟨?_, fun _ => lr_L_at, _, _, _, _, hV.back b1.1 b2 b3 ?_ ?_ ?_ (by omega) ?_ (hV.2.2.2.2.2.1 c (by omega))⟩
  · rw [pm_row_off (by decide), pm_set_miss (Or.inr (by decide)), pm_set_at]; unfold upd; simp
  · intro i h1 h2; rw [pm_row_off h2, pm_set_off h1, pm_set_off h1]; rfl
  · intro k h1 h2; rw [pm_row_off (by decide), pm_set_miss (Or.inr h1), pm_set_miss (Or.inr h2)]; rfl
  · rw [pm_row_off (by decide), pm_set_at]; unfold upd; simp
  · intro y hy
    rw [pm_row_at]; unfold lr_cpy
    rw [if_pos (by omega), Nat.sub_zero]
    show M.1 51 (620 * c + y) = F c y
    rw [b1.1 51 (by omega)]
    exact hV.2.2.2.2.1.2 c (by omega) y hy
set_option maxHeartbeats 4000000 in
set_option maxRecDepth 100000 in
theorem st_redirectPerson (x0 x1 x2 x3 : Int32) (μ : pm_Mm) (hV : lr_V μ.1) : lr_St mi_L_redirectPerson mi_X10_redirectPerson [.ref 0, .int x0, .int x1, .int x2, .int x3, .ref 55] [.ref 47, .int x0, .int x1, .int x2, .int x3] μ := by
  obtain ⟨g, c, n, F, hV⟩ := hV
  obtain ⟨a1, hI, a3, a4, a5, a6, a7, a8, a9, a10⟩ := id hV
  have hG := hI.1
  have hm1 := lr_mh hG; have hm2 := lr_mw hG; have hm3 := lr_mp hG; have hm4 := lr_mr hG; have hm5 := lr_ma hG; have hm6 := lr_ml hG
  unfold lr_St
  rcases Bool.eq_false_or_eq_true (lr_be x0 (nI (lr_n g 35))) with hb | hb
  · obtain ⟨h, hh, rfl⟩ := lr_be_t (by omega) hb
    rcases Bool.eq_false_or_eq_true (lr_be x1 (nI (lr_n g 2))) with hb2 | hb2
    · obtain ⟨q, hq, rfl⟩ := lr_be_t (by omega) hb2
      rcases Bool.eq_false_or_eq_true (lr_dys x2 x3) with hl | hl
      · by_cases hn : lr_n g 167 < 12
        · have hG2 : lr_G (lr_gX7_add g (nI 0) (nI h) (nI q) x2 x3) := hG.r (by omega) (by omega) (fun q => absurd q (by omega)) hq hl hn
          refine c_L_redirectPerson μ (c_X9_redirectPerson μ a3 hG hh hq hl hn a4) _ ?_ (fun _ _ h => h.elim)
          rintro _ M ⟨rfl, b1, b2, b3⟩
          refine ⟨_, rfl, _, rfl, (c_X10_redirectPerson (pm_setL M 0 _) ((b1.1 48 (by omega)).trans a1) hG hh hq hl ((congrFun (b1.1 47 (by omega)) 5).trans a5.1) a4.1 hn).imp ?_ (fun _ _ h => h.elim)⟩
          rintro _ M2 ⟨rfl, M3, d1, d2, rfl⟩
          exact ⟨_, rfl, lr_fsp_put_end hV b1 b2 b3 d1 d2 (hI.r hn hG2 (lr_X.r0 hI hn))⟩
        · refine c_L_redirectPerson μ (c_X9_redirectPerson_full μ a3 hG hh hq hl (by omega)) _ (fun _ _ h => h.elim) ?_
          rintro _ _ ⟨rfl, h9⟩; rw [h9]; clear h9
          refine (Or.inr (Or.inr ⟨rfl, _, rfl, (c_X10_redirectPerson_full (pm_set μ 0 6 1) ((pm_set_off (by decide)).trans a1) hG hh hq hl (by omega)).imp ?_ (fun _ _ h => h.elim)⟩))
          rintro _ _ ⟨rfl, h9⟩; rw [h9]; clear h9
          exact ⟨_, rfl, lr_ref_end hV (by decide) (by decide) (by decide)⟩
      · refine c_L_redirectPerson μ (c_X9_redirectPerson_no2 μ a3 hG hh hq hl) _ (fun _ _ h => h.elim) ?_
        rintro _ _ ⟨rfl, h9⟩; rw [h9]; clear h9
        refine (Or.inr (Or.inl ⟨rfl, _, rfl, (c_X10_redirectPerson_no2 μ a1 hG hh hq hl).imp ?_ (fun _ _ h => h.elim)⟩))
        rintro _ _ ⟨rfl, h9⟩; rw [h9]; clear h9
        exact ⟨_, rfl, lr_thr_end hV (by decide)⟩
    · refine c_L_redirectPerson μ (c_X9_redirectPerson_no1b _ _ μ a3 hG hh hb2) _ (fun _ _ h => h.elim) ?_
      rintro _ _ ⟨rfl, h9⟩; rw [h9]; clear h9
      refine (Or.inl ⟨rfl, _, rfl, (c_X10_redirectPerson_no1b _ _ μ a1 hG hh hb2).imp ?_ (fun _ _ h => h.elim)⟩)
      rintro _ _ ⟨rfl, h9⟩; rw [h9]; clear h9
      exact ⟨_, rfl, lr_thr_end hV (by decide)⟩
  · refine c_L_redirectPerson μ (c_X9_redirectPerson_no1 _ _ _ μ a3 hG hb) _ (fun _ _ h => h.elim) ?_
    rintro _ _ ⟨rfl, h9⟩; rw [h9]; clear h9
    refine (Or.inl ⟨rfl, _, rfl, (c_X10_redirectPerson_no1 _ _ _ μ a1 hG hb).imp ?_ (fun _ _ h => h.elim)⟩)
    rintro _ _ ⟨rfl, h9⟩; rw [h9]; clear h9
    exact ⟨_, rfl, lr_thr_end hV (by decide)⟩
set_option maxHeartbeats 4000000 in
set_option maxRecDepth 100000 in
theorem st_redirectHouse (x0 x1 x2 x3 : Int32) (μ : pm_Mm) (hV : lr_V μ.1) : lr_St mi_L_redirectHouse mi_X10_redirectHouse [.ref 0, .int x0, .int x1, .int x2, .int x3, .ref 55] [.ref 47, .int x0, .int x1, .int x2, .int x3] μ := by
  obtain ⟨g, c, n, F, hV⟩ := hV
  obtain ⟨a1, hI, a3, a4, a5, a6, a7, a8, a9, a10⟩ := id hV
  have hG := hI.1
  have hm1 := lr_mh hG; have hm2 := lr_mw hG; have hm3 := lr_mp hG; have hm4 := lr_mr hG; have hm5 := lr_ma hG; have hm6 := lr_ml hG
  unfold lr_St
  rcases Bool.eq_false_or_eq_true (lr_be x0 (nI (lr_n g 2))) with hb | hb
  · obtain ⟨h, hh, rfl⟩ := lr_be_t (by omega) hb
    rcases Bool.eq_false_or_eq_true (lr_be x1 (nI (lr_n g 2))) with hb2 | hb2
    · obtain ⟨q, hq, rfl⟩ := lr_be_t (by omega) hb2
      rcases Bool.eq_false_or_eq_true (lr_dys x2 x3) with hl | hl
      · by_cases hn : lr_n g 167 < 12
        · have hG2 : lr_G (lr_gX7_add g 1 (nI h) (nI q) x2 x3) := hG.r (k := 1) (by omega) (by omega) (fun q => by omega) hq hl hn
          have hcr := lr_crw_no hG2
          rcases Bool.eq_false_or_eq_true (lr_rr (lr_gX7_add g 1 (nI h) (nI q) x2 x3)) with hr | hr
          · refine c_L_redirectHouse μ (c_X9_redirectHouse_r μ a3 hG hh hq hl hn hG2 (hcr.trans hr)) _ (fun _ _ h => h.elim) ?_
            rintro _ _ ⟨rfl, M, f1, f2, h9⟩; rw [h9]; clear h9
            have hVM := hV.fr f1 f2
            refine (Or.inr (Or.inr ⟨rfl, _, rfl, (c_X10_redirectHouse_r (pm_set M 0 6 2) ((pm_set_off (by decide)).trans ((f1.1 48 (by omega)).trans a1)) hG hh hq hl hn hG2 hr).imp ?_ (fun _ _ h => h.elim)⟩))
            rintro _ M2 ⟨rfl, d⟩
            exact ⟨_, rfl, lr_fs_ref_end hVM (by decide) (by decide) (by decide) d⟩
          · refine c_L_redirectHouse μ (c_X9_redirectHouse μ a3 hG hh hq hl hn hG2 (hcr.trans hr) a4) _ ?_ (fun _ _ h => h.elim)
            rintro _ M ⟨rfl, b1, b2, b3⟩
            refine ⟨_, rfl, _, rfl, (c_X10_redirectHouse (pm_setL M 0 _) ((b1.1 48 (by omega)).trans a1) hG hh hq hl ((congrFun (b1.1 47 (by omega)) 5).trans a5.1) a4.1 hn hG2 hr).imp ?_ (fun _ _ h => h.elim)⟩
            rintro _ M2 ⟨rfl, M3, d1, d2, rfl⟩
            exact ⟨_, rfl, lr_fsp_put_end hV b1 b2 b3 d1 d2 (hI.r (k := 1) hn hG2 (lr_rr_X hG2 hr))⟩
        · refine c_L_redirectHouse μ (c_X9_redirectHouse_full μ a3 hG hh hq hl (by omega)) _ (fun _ _ h => h.elim) ?_
          rintro _ _ ⟨rfl, h9⟩; rw [h9]; clear h9
          refine (Or.inr (Or.inr ⟨rfl, _, rfl, (c_X10_redirectHouse_full (pm_set μ 0 6 1) ((pm_set_off (by decide)).trans a1) hG hh hq hl (by omega)).imp ?_ (fun _ _ h => h.elim)⟩))
          rintro _ _ ⟨rfl, h9⟩; rw [h9]; clear h9
          exact ⟨_, rfl, lr_ref_end hV (by decide) (by decide) (by decide)⟩
      · refine c_L_redirectHouse μ (c_X9_redirectHouse_no2 μ a3 hG hh hq hl) _ (fun _ _ h => h.elim) ?_
        rintro _ _ ⟨rfl, h9⟩; rw [h9]; clear h9
        refine (Or.inr (Or.inl ⟨rfl, _, rfl, (c_X10_redirectHouse_no2 μ a1 hG hh hq hl).imp ?_ (fun _ _ h => h.elim)⟩))
        rintro _ _ ⟨rfl, h9⟩; rw [h9]; clear h9
        exact ⟨_, rfl, lr_thr_end hV (by decide)⟩
    · refine c_L_redirectHouse μ (c_X9_redirectHouse_no1b _ _ μ a3 hG hh hb2) _ (fun _ _ h => h.elim) ?_
      rintro _ _ ⟨rfl, h9⟩; rw [h9]; clear h9
      refine (Or.inl ⟨rfl, _, rfl, (c_X10_redirectHouse_no1b _ _ μ a1 hG hh hb2).imp ?_ (fun _ _ h => h.elim)⟩)
      rintro _ _ ⟨rfl, h9⟩; rw [h9]; clear h9
      exact ⟨_, rfl, lr_thr_end hV (by decide)⟩
  · refine c_L_redirectHouse μ (c_X9_redirectHouse_no1 _ _ _ μ a3 hG hb) _ (fun _ _ h => h.elim) ?_
    rintro _ _ ⟨rfl, h9⟩; rw [h9]; clear h9
    refine (Or.inl ⟨rfl, _, rfl, (c_X10_redirectHouse_no1 _ _ _ μ a1 hG hb).imp ?_ (fun _ _ h => h.elim)⟩)
    rintro _ _ ⟨rfl, h9⟩; rw [h9]; clear h9
    exact ⟨_, rfl, lr_thr_end hV (by decide)⟩
set_option maxHeartbeats 4000000 in
set_option maxRecDepth 100000 in
theorem st_undo (μ : pm_Mm) (hV : lr_V μ.1) : lr_St mi_L_undo mi_X10_undo [.ref 0, .ref 55] [.ref 47] μ := by
  obtain ⟨g, c, n, F, hV⟩ := hV
  obtain ⟨a1, hI, a3, a4, a5, a6, a7, a8, a9, a10⟩ := id hV
  have hG := hI.1
  have hm1 := lr_mh hG; have hm2 := lr_mw hG; have hm3 := lr_mp hG; have hm4 := lr_mr hG; have hm5 := lr_ma hG; have hm6 := lr_ml hG
  unfold lr_St
  have hc8 := a4.1
  cases c with
  | zero =>
    refine c_L_undo μ (c_X9_undo_no μ a3 hG a4.2.2.1) _ (fun _ _ h => h.elim) ?_
    rintro _ _ ⟨rfl, h9⟩; rw [h9]; clear h9
    refine ⟨rfl, _, rfl, (c_X10_undo_no μ a5.1).imp ?_ (fun _ _ h => h.elim)⟩
    rintro _ _ ⟨rfl, h9⟩; rw [h9]; clear h9
    exact ⟨_, rfl, lr_thr_end hV (by decide)⟩
  | succ c =>
    refine c_L_undo μ (c_X9_undo μ a4 (a6 c (by omega)).1.B) _ ?_ (fun _ _ h => h.elim)
    rintro _ M ⟨rfl, b1, b2, b3⟩
    refine ⟨_, rfl, _, rfl, (c_X10_undo (pm_setL M 0 _) ((congrFun (b1.1 47 (by omega)) 5).trans a5.1) (by omega)).imp ?_ (fun _ _ h => h.elim)⟩
    rintro _ _ ⟨rfl, h9⟩; rw [h9]; clear h9
    exact ⟨_, rfl, lr_undo_end hV b1 b2 b3⟩
