/-! each step of the law: the class, then the model; what holds between two calls holds again -/
/-- the wrapper of the class, then the model's method: the same end, the same answer, and all is as before -/
def lr_St (L X : pm_Mi) (as bs : List Value) (μ : pm_Mm) : Prop := pm_CT L as μ (fun v M => ∃ k : Int32, v = some (.int k) ∧ pm_CT X bs M (fun b M2 => ∃ y : Int32, b = some (.int y) ∧ M2.1 47 7 = k ∧ (k = 0 → M2.2.1 0 = y.toInt64) ∧ lr_V M2.1) pm_NX) pm_NX
theorem lr_L_at {μ : pm_Mm} {x : Int64} : (pm_setL μ 0 x).2.1 0 = x := by unfold pm_setL; simp
theorem lr_put_end {μ M M2 : pm_Mm} {g g2 : Nat → Int32} {c n : Nat} {F : Nat → Nat → Int32} {x : Int32} (hV : lr_Vv μ.1 g c n F) (b1 : lr_fc μ M) (b2 : lr_Rel M.1 1 g2) (b3 : lr_Hs M.1 (min (c + 1) 8) ((n + 1) % 8) (lr_psh c F g)) (d1 : lr_fm (lr_chg (pm_set (pm_setL M 0 x.toInt64) 47 7 0) 48) M2) (d2 : M2.1 48 = g2) (hI : lr_I g2) : M2.1 47 7 = 0 ∧ ((0 : Int32) = 0 → M2.2.1 0 = x.toInt64) ∧ lr_V M2.1 := by
  have hP0 : lr_Ps (pm_set (pm_setL M 0 x.toInt64) 47 7 0).1 c F := hV.2.2.2.2.1.fr (by rw [pm_set_miss (Or.inr (by decide))]; exact congrFun (b1.1 47 (by omega)) 5) (by rw [pm_set_off (by decide)]; exact b1.1 51 (by omega))
  have hP := lr_chg_ps (S := 48) hP0 hV.2.2.2.1.1
  have e48 : (pm_set (pm_setL M 0 x.toInt64) 47 7 0).1 48 = g := by rw [pm_set_off (by decide)]; exact (b1.1 48 (by omega)).trans hV.1
  rw [e48] at hP
  have o47 : ∀ k, k ≠ 5 → M2.1 47 k = (pm_set (pm_setL M 0 x.toInt64) 47 7 0).1 47 k := fun k hk => by rw [d1.1 47 (by decide), lr_chg_47 hk]
  refine ⟨?_, fun _ => ?_, _, _, _, _, hV.put b1.1 b2 b3 ?_ ?_ (hP.fr (by rw [d1.1 47 (by decide)]) (by rw [d1.1 51 (by decide)])) d2 hI⟩
  · rw [o47 7 (by decide), pm_set_at]; unfold upd; simp
  · rw [d1.2, lr_chg_2]; exact lr_L_at
  · intro i h1 h2 h3 h4
    rw [d1.1 i h2, lr_chg_off h1 h4, pm_set_off h1]; rfl
  · intro k h1 h2
    rw [o47 k h1, pm_set_miss (Or.inr h2)]; rfl
theorem lr_thr_end {μ : pm_Mm} {g : Nat → Int32} {c n : Nat} {F : Nat → Nat → Int32} {k y : Int32} (hV : lr_Vv μ.1 g c n F) (hk : ¬ k = 0) : (pm_set μ 47 7 k).1 47 7 = k ∧ (k = 0 → (pm_set μ 47 7 k).2.1 0 = y.toInt64) ∧ lr_V (pm_set μ 47 7 k).1 :=
  ⟨by rw [pm_set_at]; unfold upd; simp, fun h => absurd h hk, _, _, _, _, hV.same (fun i h1 h2 => pm_set_off h1) (fun j h1 => pm_set_miss (Or.inr h1))⟩
theorem lr_read_end {μ : pm_Mm} {g : Nat → Int32} {c n : Nat} {F : Nat → Nat → Int32} {x : Int32} (hV : lr_Vv μ.1 g c n F) : (pm_set (pm_setL μ 0 x.toInt64) 47 7 0).1 47 7 = 0 ∧ ((0 : Int32) = 0 → (pm_set (pm_setL μ 0 x.toInt64) 47 7 0).2.1 0 = x.toInt64) ∧ lr_V (pm_set (pm_setL μ 0 x.toInt64) 47 7 0).1 :=
  ⟨by rw [pm_set_at]; unfold upd; simp, fun _ => lr_L_at, _, _, _, _, hV.same (fun i h1 h2 => by rw [pm_set_off h1]; rfl) (fun j h1 => by rw [pm_set_miss (Or.inr h1)]; rfl)⟩
theorem lr_ref_end {μ : pm_Mm} {g : Nat → Int32} {c n : Nat} {F : Nat → Nat → Int32} {k r y : Int32} (hV : lr_Vv μ.1 g c n F) (hk : ¬ k = 0) (hr : ¬ r = 0) (hr1 : ¬ r = -1) : (pm_set (pm_set (pm_set (pm_set μ 0 6 r) 47 7 0) 47 6 r) 47 7 k).1 47 7 = k ∧ (k = 0 → (pm_set (pm_set (pm_set (pm_set μ 0 6 r) 47 7 0) 47 6 r) 47 7 k).2.1 0 = y.toInt64) ∧ lr_V (pm_set (pm_set (pm_set (pm_set μ 0 6 r) 47 7 0) 47 6 r) 47 7 k).1 := by
  refine ⟨by rw [pm_set_at]; unfold upd; simp, fun h => absurd h hk, _, _, _, _, hV.why (y := r) ?_ ?_ ?_ ?_ ?_ hr hr1⟩
  · intro i h1 h2 h3; rw [pm_set_off h2, pm_set_off h2, pm_set_off h2, pm_set_off h1]
  · intro j hj; rw [pm_set_off (by decide), pm_set_off (by decide), pm_set_off (by decide), pm_set_miss (Or.inr hj)]
  · intro j h6 h7; rw [pm_set_miss (Or.inr h7), pm_set_miss (Or.inr h6), pm_set_miss (Or.inr h7), pm_set_off (by decide)]
  · rw [pm_set_off (by decide), pm_set_off (by decide), pm_set_off (by decide), pm_set_at]; unfold upd; simp
  · rw [pm_set_miss (Or.inr (by decide)), pm_set_at]; unfold upd; simp
set_option maxHeartbeats 4000000 in
set_option maxRecDepth 100000 in
theorem st_addHouse (x0 x1 : Int32) (μ : pm_Mm) (hV : lr_V μ.1) : lr_St mi_L_addHouse mi_X10_addHouse [.ref 0, .int x0, .int x1, .ref 55] [.ref 47, .int x0, .int x1] μ := by
  obtain ⟨g, c, n, F, hV⟩ := hV
  obtain ⟨a1, hI, a3, a4, a5, a6, a7, a8, a9, a10⟩ := id hV
  have hG := hI.1
  have hm1 := lr_mh hG; have hm2 := lr_mw hG; have hm3 := lr_mp hG; have hm4 := lr_mr hG; have hm5 := lr_ma hG; have hm6 := lr_ml hG
  unfold lr_St
  rcases Bool.eq_false_or_eq_true (lr_hok g x0 x1) with ho | ho
  · by_cases hn : lr_n g 2 < 16
    · refine c_L_addHouse μ (c_X9_addHouse μ a3 hG ho hn a4) _ ?_ (fun _ _ h => h.elim)
      rintro _ M ⟨rfl, b1, b2, b3⟩
      refine ⟨_, rfl, _, rfl, (c_X10_addHouse (pm_setL M 0 _) ((b1.1 48 (by omega)).trans a1) hG ((congrFun (b1.1 47 (by omega)) 5).trans a5.1) a4.1 ho hn).imp ?_ (fun _ _ h => h.elim)⟩
      rintro _ M2 ⟨rfl, d1, d2⟩
      exact ⟨_, rfl, lr_put_end hV b1 b2 b3 d1 d2 (hI.h ho hn)⟩
    · refine c_L_addHouse μ (c_X9_addHouse_no2 μ a3 hG ho (by omega)) _ (fun _ _ h => h.elim) ?_
      rintro _ _ ⟨rfl, h9⟩; rw [h9]; clear h9
      refine (Or.inr ⟨rfl, _, rfl, (c_X10_addHouse_no2 (c := 0) μ a1 hG ho (by omega)).imp ?_ (fun _ _ h => h.elim)⟩)
      rintro _ _ ⟨rfl, h9⟩; rw [h9]; clear h9
      exact ⟨_, rfl, lr_thr_end hV (by decide)⟩
  · refine c_L_addHouse μ (c_X9_addHouse_no1 μ a3 hG ho) _ (fun _ _ h => h.elim) ?_
    rintro _ _ ⟨rfl, h9⟩; rw [h9]; clear h9
    refine (Or.inl ⟨rfl, _, rfl, (c_X10_addHouse_no1 (c := 0) μ a1 hG ho).imp ?_ (fun _ _ h => h.elim)⟩)
    rintro _ _ ⟨rfl, h9⟩; rw [h9]; clear h9
    exact ⟨_, rfl, lr_thr_end hV (by decide)⟩
set_option maxHeartbeats 4000000 in
set_option maxRecDepth 100000 in
theorem st_addPerson (x0 : Int32) (μ : pm_Mm) (hV : lr_V μ.1) : lr_St mi_L_addPerson mi_X10_addPerson [.ref 0, .int x0, .ref 55] [.ref 47, .int x0] μ := by
  obtain ⟨g, c, n, F, hV⟩ := hV
  obtain ⟨a1, hI, a3, a4, a5, a6, a7, a8, a9, a10⟩ := id hV
  have hG := hI.1
  have hm1 := lr_mh hG; have hm2 := lr_mw hG; have hm3 := lr_mp hG; have hm4 := lr_mr hG; have hm5 := lr_ma hG; have hm6 := lr_ml hG
  unfold lr_St
  rcases Bool.eq_false_or_eq_true (lr_be x0 (nI (lr_n g 2))) with hb | hb
  · obtain ⟨h, hh, rfl⟩ := lr_be_t (by omega) hb
    by_cases hn : lr_n g 35 < 20
    · refine c_L_addPerson μ (c_X9_addPerson μ a3 hG hh hn a4) _ ?_ (fun _ _ h => h.elim)
      rintro _ M ⟨rfl, b1, b2, b3⟩
      refine ⟨_, rfl, _, rfl, (c_X10_addPerson (pm_setL M 0 _) ((b1.1 48 (by omega)).trans a1) hG ((congrFun (b1.1 47 (by omega)) 5).trans a5.1) a4.1 hh hn).imp ?_ (fun _ _ h => h.elim)⟩
      rintro _ M2 ⟨rfl, d1, d2⟩
      exact ⟨_, rfl, lr_put_end hV b1 b2 b3 d1 d2 (hI.p hh hn)⟩
    · refine c_L_addPerson μ (c_X9_addPerson_no2 μ a3 hG hh (by omega)) _ (fun _ _ h => h.elim) ?_
      rintro _ _ ⟨rfl, h9⟩; rw [h9]; clear h9
      refine (Or.inr ⟨rfl, _, rfl, (c_X10_addPerson_no2 μ a1 hG hh (by omega)).imp ?_ (fun _ _ h => h.elim)⟩)
      rintro _ _ ⟨rfl, h9⟩; rw [h9]; clear h9
      exact ⟨_, rfl, lr_thr_end hV (by decide)⟩
  · refine c_L_addPerson μ (c_X9_addPerson_no1 μ a3 hG hb) _ (fun _ _ h => h.elim) ?_
    rintro _ _ ⟨rfl, h9⟩; rw [h9]; clear h9
    refine (Or.inl ⟨rfl, _, rfl, (c_X10_addPerson_no1 μ a1 hG hb).imp ?_ (fun _ _ h => h.elim)⟩)
    rintro _ _ ⟨rfl, h9⟩; rw [h9]; clear h9
    exact ⟨_, rfl, lr_thr_end hV (by decide)⟩
set_option maxHeartbeats 4000000 in
set_option maxRecDepth 100000 in
theorem st_addWalk (x0 x1 x2 x3 x4 : Int32) (μ : pm_Mm) (hV : lr_V μ.1) : lr_St mi_L_addWalk mi_X10_addWalk [.ref 0, .int x0, .int x1, .int x2, .int x3, .int x4, .ref 55] [.ref 47, .int x0, .int x1, .int x2, .int x3, .int x4] μ := by
  obtain ⟨g, c, n, F, hV⟩ := hV
  obtain ⟨a1, hI, a3, a4, a5, a6, a7, a8, a9, a10⟩ := id hV
  have hG := hI.1
  have hm1 := lr_mh hG; have hm2 := lr_mw hG; have hm3 := lr_mp hG; have hm4 := lr_mr hG; have hm5 := lr_ma hG; have hm6 := lr_ml hG
  unfold lr_St
  rcases Bool.eq_false_or_eq_true (lr_wok x0 x1 x2 x3 x4) with ho | ho
  · by_cases hn : lr_n g 116 < 10
    · refine c_L_addWalk μ (c_X9_addWalk μ a3 hG ho hn (hI.w ho hn).1 a4) _ ?_ (fun _ _ h => h.elim)
      rintro _ M ⟨rfl, b1, b2, b3⟩
      refine ⟨_, rfl, _, rfl, (c_X10_addWalk (pm_setL M 0 _) ((b1.1 48 (by omega)).trans a1) hG ((congrFun (b1.1 47 (by omega)) 5).trans a5.1) a4.1 ho hn (hI.w ho hn).1).imp ?_ (fun _ _ h => h.elim)⟩
      rintro _ M2 ⟨rfl, d1, d2⟩
      exact ⟨_, rfl, lr_put_end hV b1 b2 b3 d1 d2 (hI.w ho hn)⟩
    · refine c_L_addWalk μ (c_X9_addWalk_no2 μ a3 hG ho (by omega)) _ (fun _ _ h => h.elim) ?_
      rintro _ _ ⟨rfl, h9⟩; rw [h9]; clear h9
      refine (Or.inr ⟨rfl, _, rfl, (c_X10_addWalk_no2 μ a1 hG ho (by omega)).imp ?_ (fun _ _ h => h.elim)⟩)
      rintro _ _ ⟨rfl, h9⟩; rw [h9]; clear h9
      exact ⟨_, rfl, lr_thr_end hV (by decide)⟩
  · refine c_L_addWalk μ (c_X9_addWalk_no1 μ a3 hG ho) _ (fun _ _ h => h.elim) ?_
    rintro _ _ ⟨rfl, h9⟩; rw [h9]; clear h9
    refine (Or.inl ⟨rfl, _, rfl, (c_X10_addWalk_no1 μ a1 hG ho).imp ?_ (fun _ _ h => h.elim)⟩)
    rintro _ _ ⟨rfl, h9⟩; rw [h9]; clear h9
    exact ⟨_, rfl, lr_thr_end hV (by decide)⟩
set_option maxHeartbeats 4000000 in
set_option maxRecDepth 100000 in
theorem st_walkOf (x0 : Int32) (μ : pm_Mm) (hV : lr_V μ.1) : lr_St mi_L_walkOf mi_X10_walkOf [.ref 0, .int x0, .ref 55] [.ref 47, .int x0] μ := by
  obtain ⟨g, c, n, F, hV⟩ := hV
  obtain ⟨a1, hI, a3, a4, a5, a6, a7, a8, a9, a10⟩ := id hV
  have hG := hI.1
  have hm1 := lr_mh hG; have hm2 := lr_mw hG; have hm3 := lr_mp hG; have hm4 := lr_mr hG; have hm5 := lr_ma hG; have hm6 := lr_ml hG
  unfold lr_St
  rcases Bool.eq_false_or_eq_true (lr_be x0 (nI (lr_n g 2))) with hb | hb
  · obtain ⟨h, hh, rfl⟩ := lr_be_t (by omega) hb
    refine c_L_walkOf μ (c_X9_walkOf μ a3 hG hh) _ ?_ (fun _ _ h => h.elim)
    rintro _ _ ⟨rfl, h9⟩; rw [h9]; clear h9
    refine ⟨_, rfl, _, rfl, (c_X10_walkOf (pm_setL μ 0 _) a1 hG hh).imp ?_ (fun _ _ h => h.elim)⟩
    rintro _ _ ⟨rfl, h9⟩; rw [h9]; clear h9
    exact ⟨_, rfl, lr_read_end hV⟩
  · refine c_L_walkOf μ (c_X9_walkOf_no μ a3 hG hb) _ (fun _ _ h => h.elim) ?_
    rintro _ _ ⟨rfl, h9⟩; rw [h9]; clear h9
    refine ⟨rfl, _, rfl, (c_X10_walkOf_no μ a1 hG hb).imp ?_ (fun _ _ h => h.elim)⟩
    rintro _ _ ⟨rfl, h9⟩; rw [h9]; clear h9
    exact ⟨_, rfl, lr_thr_end hV (by decide)⟩
