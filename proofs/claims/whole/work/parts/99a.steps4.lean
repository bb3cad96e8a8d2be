/-! more steps of the law -/
theorem lr_fst_m {p : Nat → Bool} : ∀ n k, k + n < 2 ^ 31 → lr_fst p n k = -1 → ∀ i, k ≤ i → i < k + n → p i = false := by
  intro n
  induction n with
  | zero => intro k _ _ i h1 h2; omega
  | succ n ih =>
    intro k hk he i h1 h2
    unfold lr_fst at he
    by_cases hp : p k = true
    · rw [if_pos hp] at he
      have q : (nI k).toInt = (-1 : Int32).toInt := by rw [he]
      rw [nI_toInt (by omega), show (-1 : Int32).toInt = -1 from rfl] at q
      omega
    · rw [if_neg hp] at he
      by_cases e : i = k
      · rw [e]; simpa using hp
      · exact ih (k + 1) (by omega) he i (by omega) (by omega)
theorem lr_Ps.cg {f : Nat → Nat → Int32} {c : Nat} {F G : Nat → Nat → Int32} (h : lr_Ps f c F) (e : ∀ k, k < c → ∀ x, x < 620 → F k x = G k x) : lr_Ps f c G := ⟨h.1, fun k hk x hx => (h.2 k hk x hx).trans (e k hk x hx)⟩
theorem lr_fsp_put_end {μ M M' : pm_Mm} {g g2 : Nat → Int32} {c n : Nat} {F : Nat → Nat → Int32} {x : Int32} (hV : lr_Vv μ.1 g c n F) (b1 : lr_fc μ M) (b2 : lr_Rel M.1 1 g2) (b3 : lr_Hs M.1 (min (c + 1) 8) ((n + 1) % 8) (lr_psh c F g)) (d1 : lr_fsp (pm_set (pm_setL M 0 x.toInt64) 47 7 0) M') (d2 : M'.1 48 = g2) (hI : lr_I g2) : (lr_chg M' 50).1 47 7 = 0 ∧ ((0 : Int32) = 0 → (lr_chg M' 50).2.1 0 = x.toInt64) ∧ lr_V (lr_chg M' 50).1 := by
  obtain ⟨o, o2, o50⟩ := d1
  have e48 : (pm_set (pm_setL M 0 x.toInt64) 47 7 0).1 48 = g := by rw [pm_set_off (by decide)]; exact (b1.1 48 (by omega)).trans hV.1
  have e47 : M'.1 47 = (pm_set (pm_setL M 0 x.toInt64) 47 7 0).1 47 := o 47 (by decide) (by decide)
  have hP0 : lr_Ps M'.1 c F := hV.2.2.2.2.1.fr (by rw [e47, pm_set_miss (Or.inr (by decide))]; exact congrFun (b1.1 47 (by omega)) 5) (by rw [o 51 (by decide) (by decide), pm_set_off (by decide)]; exact b1.1 51 (by omega))
  have hP := lr_chg_ps (S := 50) hP0 hV.2.2.2.1.1
  have hP2 : lr_Ps (lr_chg M' 50).1 (min (c + 1) 8) (lr_psh c F g) := hP.cg (fun k hk y hy => by
    have e : M'.1 50 y = g y := by rw [o50 y hy, e48]
    unfold lr_psh
    by_cases e8 : c = 8
    · simp only [if_pos e8]
      by_cases e7 : k < 7
      · simp only [if_pos e7]
      · simp only [if_neg e7]; exact e
    · simp only [if_neg e8]
      by_cases e7 : k = c
      · simp only [if_pos e7]; exact e
      · simp only [if_neg e7])
  have o47 : ∀ k, k ≠ 5 → (lr_chg M' 50).1 47 k = (pm_set (pm_setL M 0 x.toInt64) 47 7 0).1 47 k := fun k hk => by rw [lr_chg_47 hk, e47]
  refine ⟨?_, fun _ => ?_, _, _, _, _, hV.put b1.1 b2 b3 ?_ ?_ hP2 (by rw [lr_chg_off (by decide) (by decide)]; exact d2) hI⟩
  · rw [o47 7 (by decide), pm_set_at]; unfold upd; simp
  · rw [lr_chg_2, o2]; exact lr_L_at
  · intro i h1 h2 h3 h4
    rw [lr_chg_off h1 h4, o i h2 h3, pm_set_off h1]; rfl
  · intro k h1 h2
    rw [o47 k h1, pm_set_miss (Or.inr h2)]; rfl
theorem lr_fs_ref_end {μ M2 : pm_Mm} {g : Nat → Int32} {c n : Nat} {F : Nat → Nat → Int32} {k r y : Int32} (hV : lr_Vv μ.1 g c n F) (hk : ¬ k = 0) (hr : ¬ r = 0) (hr1 : ¬ r = -1) (d : lr_fs (pm_set (pm_set (pm_set (pm_set μ 0 6 r) 47 7 0) 47 6 r) 47 7 k) M2) : M2.1 47 7 = k ∧ (k = 0 → M2.2.1 0 = y.toInt64) ∧ lr_V M2.1 := by
  refine ⟨by rw [d.1 47 (by decide), pm_set_at]; unfold upd; simp, fun h => absurd h hk, _, _, _, _, hV.why (y := r) ?_ ?_ ?_ ?_ ?_ hr hr1⟩
  · intro i h1 h2 h3; rw [d.1 i h3, pm_set_off h2, pm_set_off h2, pm_set_off h2, pm_set_off h1]
  · intro j hj; rw [d.1 0 (by decide), pm_set_off (by decide), pm_set_off (by decide), pm_set_off (by decide), pm_set_miss (Or.inr hj)]
  · intro j h6 h7; rw [d.1 47 (by decide), pm_set_miss (Or.inr h7), pm_set_miss (Or.inr h6), pm_set_miss (Or.inr h7), pm_set_off (by decide)]
  · rw [d.1 0 (by decide), pm_set_off (by decide), pm_set_off (by decide), pm_set_off (by decide), pm_set_at]; unfold upd; simp
  · rw [d.1 47 (by decide), pm_set_miss (Or.inr (by decide)), pm_set_at]; unfold upd; simp
set_option maxHeartbeats 4000000 in
set_option maxRecDepth 100000 in
theorem st_dropRedirect (x0 : Int32) (μ : pm_Mm) (hV : lr_V μ.1) : lr_St mi_L_dropRedirect mi_X10_dropRedirect [.ref 0, .int x0, .ref 55] [.ref 47, .int x0] μ := by
  obtain ⟨g, c, n, F, hV⟩ := hV
  obtain ⟨a1, hI, a3, a4, a5, a6, a7, a8, a9, a10⟩ := id hV
  have hG := hI.1
  have hm1 := lr_mh hG; have hm2 := lr_mw hG; have hm3 := lr_mp hG; have hm4 := lr_mr hG; have hm5 := lr_ma hG; have hm6 := lr_ml hG
  unfold lr_St
  rcases Bool.eq_false_or_eq_true (lr_be x0 (nI (lr_n g 167))) with hb | hb
  · obtain ⟨h, hh, rfl⟩ := lr_be_t (by omega) hb
    have hG2 := hG.d hh
    have hcr := lr_crw_grem hG hh hG2
    have hq : lr_n g 167 = (lr_n g 167 - 1) + 1 := by omega
    rcases Bool.eq_false_or_eq_true (lr_rr (lr_grem g h)) with hr | hr
    · refine c_L_dropRedirect μ (c_X9_dropRedirect_r μ a3 hG hh (hcr.trans hr)) _ (fun _ _ h => h.elim) ?_
      rintro _ _ ⟨rfl, h9⟩; rw [h9]; clear h9
      refine (Or.inr ⟨rfl, _, rfl, (c_X10_dropRedirect_r (pm_set μ 0 6 2) ((pm_set_off (by decide)).trans a1) hG hq (by omega) hG2 hr).imp ?_ (fun _ _ h => h.elim)⟩)
      rintro _ M2 ⟨rfl, d⟩
      exact ⟨_, rfl, lr_fs_ref_end hV (by decide) (by decide) (by decide) d⟩
    · refine c_L_dropRedirect μ (c_X9_dropRedirect μ a3 hG hh (hcr.trans hr) a4) _ ?_ (fun _ _ h => h.elim)
      rintro _ M ⟨rfl, b1, b2, b3⟩
      refine ⟨_, rfl, _, rfl, (c_X10_dropRedirect (pm_setL M 0 _) ((b1.1 48 (by omega)).trans a1) hG ((congrFun (b1.1 47 (by omega)) 5).trans a5.1) a4.1 hq (by omega) hG2 hr).imp ?_ (fun _ _ h => h.elim)⟩
      rintro _ M2 ⟨rfl, M3, d1, d2, rfl⟩
      exact ⟨_, rfl, lr_fsp_put_end hV b1 b2 b3 d1 d2 (hI.d hh hr)⟩
  · refine c_L_dropRedirect μ (c_X9_dropRedirect_no1 μ a3 hG hb) _ (fun _ _ h => h.elim) ?_
    rintro _ _ ⟨rfl, h9⟩; rw [h9]; clear h9
    refine (Or.inl ⟨rfl, _, rfl, (c_X10_dropRedirect_no1 μ a1 hG hb).imp ?_ (fun _ _ h => h.elim)⟩)
    rintro _ _ ⟨rfl, h9⟩; rw [h9]; clear h9
    exact ⟨_, rfl, lr_thr_end hV (by decide)⟩
set_option maxHeartbeats 4000000 in
set_option maxRecDepth 100000 in
theorem st_delivered (x0 : Int32) (μ : pm_Mm) (hV : lr_V μ.1) : lr_St mi_L_delivered mi_X10_delivered [.ref 0, .int x0, .ref 55] [.ref 47, .int x0] μ := by
  obtain ⟨g, c, n, F, hV⟩ := hV
  obtain ⟨a1, hI, a3, a4, a5, a6, a7, a8, a9, a10⟩ := id hV
  have hG := hI.1
  have hm1 := lr_mh hG; have hm2 := lr_mw hG; have hm3 := lr_mp hG; have hm4 := lr_mr hG; have hm5 := lr_ma hG; have hm6 := lr_ml hG
  unfold lr_St
  have lr_nn0 : ∀ {d : Nat}, d < 2 ^ 31 → ¬ nI d < 0 := fun {d} hd q => by
    have := (nJ_lt (a := d) (b := 0) hd (by decide)).mp q
    omega
  have hmD := lr_mD hG
  have hC := hI.2.2.2.1
  rcases Bool.eq_false_or_eq_true (lr_be x0 (nI (lr_n g 1))) with hb | hb
  · obtain ⟨d, hd, rfl⟩ := lr_be_t (by omega) hb
    obtain ⟨i0, hi0, he0⟩ := hC.2.2.2.1 d hd
    have hx : ∃ i, lr_fst (fun i => decide (g (300 + 11 * i) = nI d)) (lr_n g 289) 0 = nI i ∧ i < lr_n g 289 ∧ g (300 + 11 * i) = nI d := by
      rcases lr_fst_ok (fun i => decide (g (300 + 11 * i) = nI d)) (lr_n g 289) 0 with e | ⟨i, e, h1, h2, h3⟩
      · have := lr_fst_m _ _ (by omega) e i0 (by omega) (by omega)
        simp [he0] at this
      · exact ⟨i, e, by omega, of_decide_eq_true h3⟩
    obtain ⟨i, hi1, hi2, hi3⟩ := hx
    have n1 : ¬ nI i = -1 := fun q => by
      have q2 : (nI i).toInt = (-1 : Int32).toInt := by rw [q]
      rw [nI_toInt (by omega), show (-1 : Int32).toInt = -1 from rfl] at q2
      omega
    refine c_L_delivered μ (c_X9_delivered μ a3 hG hd hi2 hi3) _ ?_ (fun _ _ h => h.elim)
    rintro _ _ ⟨rfl, h9⟩; rw [h9]; clear h9
    refine ⟨_, rfl, _, rfl, (c_X10_delivered (pm_setL μ 0 _) a1 hG (lr_nn0 (by omega))).imp ?_ (fun _ _ h => h.elim)⟩
    rintro _ _ ⟨rfl, h9⟩
    rw [hi1, if_neg n1] at h9
    rw [hi1, if_neg n1]
    rw [h9]; clear h9
    exact ⟨_, rfl, lr_read_end hV⟩
  · by_cases hz : x0 < 0
    · refine c_L_delivered μ (c_X9_delivered_no μ a3 hG hb) _ (fun _ _ h => h.elim) ?_
      rintro _ _ ⟨rfl, h9⟩; rw [h9]; clear h9
      refine ⟨rfl, _, rfl, (c_X10_delivered_neg μ a1 hG hz).imp ?_ (fun _ _ h => h.elim)⟩
      rintro _ _ ⟨rfl, h9⟩
      skip
      rw [h9]; clear h9
      exact ⟨_, rfl, lr_thr_end2 hV (by decide)⟩
    · obtain ⟨d, hd, rfl⟩ := nI_of hz
      have hdD : ¬ d < lr_n g 1 := fun q => by rw [lr_be_1 q (by omega)] at hb; exact absurd hb (by decide)
      have hx : lr_fst (fun i => decide (g (300 + 11 * i) = nI d)) (lr_n g 289) 0 = -1 := by
        rcases lr_fst_ok (fun i => decide (g (300 + 11 * i) = nI d)) (lr_n g 289) 0 with e | ⟨i, e, h1, h2, h3⟩
        · exact e
        · have h4 : g (300 + 11 * i) = nI d := of_decide_eq_true h3
          obtain ⟨x, hx, hx2⟩ := (lr_G_l hG (i := i) (by omega)).2.2.2.2.2.2.2.2.2.2
          have h30 : d < 30 := by
            have q : (nI d + 1).toInt = (nI x).toInt := by rw [← h4, hx, Int32.sub_add_cancel]
            rw [show nI d + 1 = nI (d + 1) from (Int32.ofNat_add d 1).symm] at q
            by_cases hd2 : d + 1 < 2 ^ 31
            · rw [nI_toInt hd2, nI_toInt (by omega)] at q; omega
            · have : d + 1 = 2 ^ 31 := by omega
              rw [this, nI_toInt (n := x) (by omega)] at q
              have q3 : (nI (2 ^ 31)).toInt = -2147483648 := by decide
              omega
          exact absurd (hC.2.2.1 i d (by omega) h4 h30) hdD
      refine c_L_delivered μ (c_X9_delivered_no μ a3 hG hb) _ (fun _ _ h => h.elim) ?_
      rintro _ _ ⟨rfl, h9⟩; rw [h9]; clear h9
      refine ⟨rfl, _, rfl, (c_X10_delivered μ a1 hG hz).imp ?_ (fun _ _ h => h.elim)⟩
      rintro _ _ ⟨rfl, h9⟩
      rw [if_pos hx] at h9
      rw [h9]; clear h9
      exact ⟨_, rfl, lr_thr_end2 hV (by decide)⟩
set_option maxHeartbeats 4000000 in
set_option maxRecDepth 100000 in
theorem st_account (x0 : Int32) (μ : pm_Mm) (hV : lr_V μ.1) : lr_St mi_L_account mi_X10_account [.ref 0, .int x0, .ref 55] [.ref 47, .int x0] μ := by
  obtain ⟨g, c, n, F, hV⟩ := hV
  obtain ⟨a1, hI, a3, a4, a5, a6, a7, a8, a9, a10⟩ := id hV
  have hG := hI.1
  have hm1 := lr_mh hG; have hm2 := lr_mw hG; have hm3 := lr_mp hG; have hm4 := lr_mr hG; have hm5 := lr_ma hG; have hm6 := lr_ml hG
  unfold lr_St
  rcases Bool.eq_false_or_eq_true (lr_in x0 0 10) with hl | hl
  · have hl2 := hl
    obtain ⟨k, rfl, -, hk⟩ := lr_in_nat (lo := 0) (hi := 10) (by decide) (by decide) hl2
    rcases (show k = 0 ∨ k = 1 ∨ k = 2 ∨ k = 3 ∨ k = 4 ∨ k = 5 ∨ k = 6 ∨ k = 7 ∨ k = 8 ∨ k = 9 ∨ k = 10 by omega) with rfl | rfl | rfl | rfl | rfl | rfl | rfl | rfl | rfl | rfl | rfl
    · refine c_L_account μ (c_X9_account_0 μ a3 hG) _ ?_ (fun _ _ h => h.elim)
      rintro _ _ ⟨rfl, h9⟩; rw [h9]; clear h9
      refine ⟨_, rfl, _, rfl, (c_X10_account_0 (pm_setL μ 0 _) a1 hG).imp ?_ (fun _ _ h => h.elim)⟩
      rintro _ _ ⟨rfl, h9⟩; rw [h9]; clear h9
      exact ⟨_, rfl, lr_read_end hV⟩
    · refine c_L_account μ (c_X9_account_1 μ a3 hG) _ ?_ (fun _ _ h => h.elim)
      rintro _ _ ⟨rfl, h9⟩; rw [h9]; clear h9
      refine ⟨_, rfl, _, rfl, (c_X10_account_1 (pm_setL μ 0 _) a1 hG).imp ?_ (fun _ _ h => h.elim)⟩
      rintro _ _ ⟨rfl, h9⟩; rw [h9]; clear h9
      exact ⟨_, rfl, lr_read_end hV⟩
    · refine c_L_account μ (c_X9_account_2 μ a3 hG) _ ?_ (fun _ _ h => h.elim)
      rintro _ _ ⟨rfl, h9⟩; rw [h9]; clear h9
      refine ⟨_, rfl, _, rfl, (c_X10_account_2 (pm_setL μ 0 _) a1 hG).imp ?_ (fun _ _ h => h.elim)⟩
      rintro _ _ ⟨rfl, h9⟩; rw [h9]; clear h9
      exact ⟨_, rfl, lr_read_end hV⟩
    · refine c_L_account μ (c_X9_account_3 μ a3 hG) _ ?_ (fun _ _ h => h.elim)
      rintro _ _ ⟨rfl, h9⟩; rw [h9]; clear h9
      refine ⟨_, rfl, _, rfl, (c_X10_account_3 (pm_setL μ 0 _) a1 hG).imp ?_ (fun _ _ h => h.elim)⟩
      rintro _ _ ⟨rfl, h9⟩; rw [h9]; clear h9
      exact ⟨_, rfl, lr_read_end hV⟩
    · refine c_L_account μ (c_X9_account_4 μ a3 hG) _ ?_ (fun _ _ h => h.elim)
      rintro _ _ ⟨rfl, h9⟩; rw [h9]; clear h9
      refine ⟨_, rfl, _, rfl, (c_X10_account_4 (pm_setL μ 0 _) a1 hG).imp ?_ (fun _ _ h => h.elim)⟩
      rintro _ _ ⟨rfl, h9⟩; rw [h9]; clear h9
      exact ⟨_, rfl, lr_read_end hV⟩
    · refine c_L_account μ (c_X9_account_5 μ a3 hG) _ ?_ (fun _ _ h => h.elim)
      rintro _ _ ⟨rfl, h9⟩; rw [h9]; clear h9
      refine ⟨_, rfl, _, rfl, (c_X10_account_5 (pm_setL μ 0 _) a1 hG).imp ?_ (fun _ _ h => h.elim)⟩
      rintro _ _ ⟨rfl, h9⟩
      rw [show (5 : Int32) - 5 = 0 from by decide, lr_smn_eq (by decide)]
      rw [h9]; clear h9
      exact ⟨_, rfl, lr_read_end hV⟩
    · refine c_L_account μ (c_X9_account_6 μ a3 hG) _ ?_ (fun _ _ h => h.elim)
      rintro _ _ ⟨rfl, h9⟩; rw [h9]; clear h9
      refine ⟨_, rfl, _, rfl, (c_X10_account_6 (pm_setL μ 0 _) a1 hG).imp ?_ (fun _ _ h => h.elim)⟩
      rintro _ _ ⟨rfl, h9⟩
      rw [show (6 : Int32) - 5 = 1 from by decide, lr_smn_eq (by decide)]
      rw [h9]; clear h9
      exact ⟨_, rfl, lr_read_end hV⟩
    · refine c_L_account μ (c_X9_account_7 μ a3 hG) _ ?_ (fun _ _ h => h.elim)
      rintro _ _ ⟨rfl, h9⟩; rw [h9]; clear h9
      refine ⟨_, rfl, _, rfl, (c_X10_account_7 (pm_setL μ 0 _) a1 hG).imp ?_ (fun _ _ h => h.elim)⟩
      rintro _ _ ⟨rfl, h9⟩
      rw [show (7 : Int32) - 5 = 2 from by decide, lr_smn_eq (by decide)]
      rw [h9]; clear h9
      exact ⟨_, rfl, lr_read_end hV⟩
    · refine c_L_account μ (c_X9_account_8 μ a3 hG) _ ?_ (fun _ _ h => h.elim)
      rintro _ _ ⟨rfl, h9⟩; rw [h9]; clear h9
      refine ⟨_, rfl, _, rfl, (c_X10_account_8 (pm_setL μ 0 _) a1 hG).imp ?_ (fun _ _ h => h.elim)⟩
      rintro _ _ ⟨rfl, h9⟩
      rw [lr_smt_wwt]
      rw [h9]; clear h9
      exact ⟨_, rfl, lr_read_end hV⟩
    · refine c_L_account μ (c_X9_account_9 μ a3 hG) _ ?_ (fun _ _ h => h.elim)
      rintro _ _ ⟨rfl, h9⟩; rw [h9]; clear h9
      refine ⟨_, rfl, _, rfl, (c_X10_account_9 (pm_setL μ 0 _) a1 hG).imp ?_ (fun _ _ h => h.elim)⟩
      rintro _ _ ⟨rfl, h9⟩
      rw [lr_nsv_eq g (by omega)]
      rw [h9]; clear h9
      exact ⟨_, rfl, lr_read_end hV⟩
    · refine c_L_account μ (c_X9_account_10 μ a3 hG) _ ?_ (fun _ _ h => h.elim)
      rintro _ _ ⟨rfl, h9⟩; rw [h9]; clear h9
      refine ⟨_, rfl, _, rfl, (c_X10_account_10 (pm_setL μ 0 _) a1 hG).imp ?_ (fun _ _ h => h.elim)⟩
      rintro _ _ ⟨rfl, h9⟩
      rw [lr_smt_atr]
      rw [h9]; clear h9
      exact ⟨_, rfl, lr_read_end hV⟩
  · have ho : x0.toInt < 0 ∨ 10 < x0.toInt := by
      unfold lr_in at hl
      simp only [Bool.and_eq_false_iff, Bool.not_eq_false', decide_eq_true_eq] at hl
      rcases hl with h | h
      · exact Or.inl (Int32.lt_iff_toInt_lt.mp h)
      · exact Or.inr (Int32.lt_iff_toInt_lt.mp h)
    refine c_L_account μ (c_X9_account_no μ a3 hG ho) _ (fun _ _ h => h.elim) ?_
    rintro _ _ ⟨rfl, h9⟩; rw [h9]; clear h9
    refine ⟨rfl, _, rfl, (c_X10_account_no μ a1 hG hl).imp ?_ (fun _ _ h => h.elim)⟩
    rintro _ _ ⟨rfl, h9⟩; rw [h9]; clear h9
    exact ⟨_, rfl, lr_thr_end hV (by decide)⟩
