/-! more steps of the law: allow, the mean, snapshots, text, plain reads -/
def lr_StB (L X : pm_Mi) (as bs : List Value) (μ : pm_Mm) : Prop := pm_CT L as μ (fun v M => ∃ k : Int32, v = some (.int k) ∧ pm_CT X bs M (fun b M2 => ∃ y : Int32, b = some (.int y) ∧ M2.1 47 7 = k ∧ (k = 0 → M2.2.1 0 = if y = 0 then 0 else 1) ∧ lr_V M2.1) pm_NX) pm_NX
def lr_StD (L X : pm_Mi) (as bs : List Value) (μ : pm_Mm) : Prop := pm_CT L as μ (fun v M => ∃ k : Int32, v = some (.int k) ∧ pm_CT X bs M (fun b M2 => ∃ y : UInt64, b = some (.double y) ∧ M2.1 47 7 = k ∧ (k = 0 → M2.2.2.1 0 = y) ∧ lr_V M2.1) pm_NX) pm_NX
def lr_StV (L X : pm_Mi) (as bs : List Value) (μ : pm_Mm) : Prop := pm_CT L as μ (fun v M => ∃ k : Int32, v = some (.int k) ∧ pm_CT X bs M (fun b M2 => b = none ∧ M2.1 47 7 = k ∧ lr_V M2.1) pm_NX) pm_NX
/-- both called plainly, the same answer -/
def lr_StR (L X : pm_Mi) (as bs : List Value) (μ : pm_Mm) : Prop := pm_CT L as μ (fun v M => ∃ k : Int32, v = some (.int k) ∧ pm_CT X bs M (fun b M2 => b = some (.int k) ∧ lr_V M2.1) pm_NX) pm_NX
def lr_StN (L X : pm_Mi) (as bs : List Value) (μ : pm_Mm) : Prop := pm_CT L as μ (fun v M => v = none ∧ pm_CT X bs M (fun b M2 => b = none ∧ lr_V M2.1) pm_NX) pm_NX
theorem lr_thr_v {μ : pm_Mm} {g : Nat → Int32} {c n : Nat} {F : Nat → Nat → Int32} {k : Int32} (hV : lr_Vv μ.1 g c n F) : (pm_set μ 47 7 k).1 47 7 = k ∧ lr_V (pm_set μ 47 7 k).1 :=
  ⟨by rw [pm_set_at]; unfold upd; simp, _, _, _, _, hV.same (fun i h1 h2 => pm_set_off h1) (fun j h1 => pm_set_miss (Or.inr h1))⟩
theorem lr_thr_B {μ : pm_Mm} {g : Nat → Int32} {c n : Nat} {F : Nat → Nat → Int32} {k y : Int32} (hV : lr_Vv μ.1 g c n F) (hk : ¬ k = 0) : (pm_set μ 47 7 k).1 47 7 = k ∧ (k = 0 → (pm_set μ 47 7 k).2.1 0 = if y = 0 then 0 else 1) ∧ lr_V (pm_set μ 47 7 k).1 := ⟨(lr_thr_v hV).1, fun h => absurd h hk, (lr_thr_v hV).2⟩
theorem lr_chg_1 {μ ν : pm_Mm} {S : Nat} (h : μ.1 = ν.1) : (lr_chg μ S).1 = (lr_chg ν S).1 := by
  obtain ⟨f, a⟩ := μ
  obtain ⟨f2, b⟩ := ν
  have e : f = f2 := h
  subst e
  unfold lr_chg
  by_cases e : f 47 5 = 8
  · rw [if_pos (show ((f, a) : pm_Mm).1 47 5 = 8 from e), if_pos (show ((f, b) : pm_Mm).1 47 5 = 8 from e)]; rfl
  · rw [if_neg (show ¬ ((f, a) : pm_Mm).1 47 5 = 8 from e), if_neg (show ¬ ((f, b) : pm_Mm).1 47 5 = 8 from e)]; rfl
theorem lr_put_B {μ M M2 : pm_Mm} {g g2 : Nat → Int32} {c n : Nat} {F : Nat → Nat → Int32} {y : Int64} (hV : lr_Vv μ.1 g c n F) (b1 : lr_fc μ M) (b2 : lr_Rel M.1 1 g2) (b3 : lr_Hs M.1 (min (c + 1) 8) ((n + 1) % 8) (lr_psh c F g)) (d1 : lr_fm (lr_chg (pm_set (pm_setL M 0 y) 47 7 0) 48) M2) (d2 : M2.1 48 = g2) (hI : lr_I g2) : M2.1 47 7 = 0 ∧ ((0 : Int32) = 0 → M2.2.1 0 = y) ∧ lr_V M2.1 := by
  have d3 : lr_fm (lr_chg (pm_set (pm_setL M 0 (0 : Int32).toInt64) 47 7 0) 48) (M2.1, (pm_setL M 0 (0 : Int32).toInt64).2) := ⟨fun i hi => by exact (d1.1 i hi).trans (congrFun (lr_chg_1 (μ := pm_set (pm_setL M 0 y) 47 7 0) (ν := pm_set (pm_setL M 0 (0 : Int32).toInt64) 47 7 0) rfl) i), by rw [lr_chg_2]; rfl⟩
  have q := lr_put_end hV b1 b2 b3 d3 d2 hI
  refine ⟨q.1, fun _ => ?_, q.2.2⟩
  rw [d1.2, lr_chg_2]; exact lr_L_at
set_option maxHeartbeats 4000000 in
set_option maxRecDepth 100000 in
theorem st_allow (x0 x1 x2 : Int32) (μ : pm_Mm) (hV : lr_V μ.1) : lr_StB mi_L_allow mi_X10_allow [.ref 0, .int x0, .int x1, .int x2, .ref 55] [.ref 47, .int x0, .int x1, .int x2] μ := by
  obtain ⟨g, c, n, F, hV⟩ := hV
  obtain ⟨a1, hI, a3, a4, a5, a6, a7, a8, a9, a10⟩ := id hV
  have hG := hI.1
  have hm1 := lr_mh hG; have hm2 := lr_mw hG; have hm3 := lr_mp hG; have hm4 := lr_mr hG; have hm5 := lr_ma hG; have hm6 := lr_ml hG
  unfold lr_StB
  rcases Bool.eq_false_or_eq_true (lr_be x0 (nI (lr_n g 35))) with hb | hb
  · obtain ⟨h, hh, rfl⟩ := lr_be_t (by omega) hb
    rcases Bool.eq_false_or_eq_true (lr_be x1 (nI (lr_n g 35))) with hb2 | hb2
    · obtain ⟨q, hq, rfl⟩ := lr_be_t (by omega) hb2
      by_cases he : h = q
      · subst he
        refine c_L_allow μ (c_X9_allow_no2 _ μ a3 hG hh) _ (fun _ _ h => h.elim) ?_
        rintro _ _ ⟨rfl, h9⟩; rw [h9]; clear h9
        refine (Or.inr ⟨rfl, _, rfl, (c_X10_allow_no2 _ μ a1 hG hh).imp ?_ (fun _ _ h => h.elim)⟩)
        rintro _ _ ⟨rfl, h9⟩; rw [h9]; clear h9
        exact ⟨_, rfl, lr_thr_B hV (by decide)⟩
      · refine c_L_allow μ (c_X9_allow x2 μ a3 hG hh hq he a4) _ ?_ (fun _ _ h => h.elim)
        rintro _ M ⟨rfl, b1, b2, b3⟩
        refine ⟨_, rfl, _, rfl, (c_X10_allow x2 (pm_setL M 0 _) ((b1.1 48 (by omega)).trans a1) hG ((congrFun (b1.1 47 (by omega)) 5).trans a5.1) a4.1 hh hq he).imp ?_ (fun _ _ h => h.elim)⟩
        rintro _ M2 ⟨rfl, d1, d2⟩
        exact ⟨_, rfl, lr_put_B hV b1 b2 b3 d1 d2 (lr_alw_I hI hh)⟩
    · refine c_L_allow μ (c_X9_allow_no1b _ μ a3 hG hh hb2) _ (fun _ _ h => h.elim) ?_
      rintro _ _ ⟨rfl, h9⟩; rw [h9]; clear h9
      refine (Or.inl ⟨rfl, _, rfl, (c_X10_allow_no1b _ μ a1 hG hh hb2).imp ?_ (fun _ _ h => h.elim)⟩)
      rintro _ _ ⟨rfl, h9⟩; rw [h9]; clear h9
      exact ⟨_, rfl, lr_thr_B hV (by decide)⟩
  · refine c_L_allow μ (c_X9_allow_no1 _ _ μ a3 hG hb) _ (fun _ _ h => h.elim) ?_
    rintro _ _ ⟨rfl, h9⟩; rw [h9]; clear h9
    refine (Or.inl ⟨rfl, _, rfl, (c_X10_allow_no1 _ _ μ a1 hG hb).imp ?_ (fun _ _ h => h.elim)⟩)
    rintro _ _ ⟨rfl, h9⟩; rw [h9]; clear h9
    exact ⟨_, rfl, lr_thr_B hV (by decide)⟩
theorem lr_mean_D {g : Nat → Int32} : lr_sum (lr_smt g 5 1) (lr_n g 289) - lr_sum (lr_smt g 3 1) (lr_n g 289) = lr_dtd g := lr_smt_dtd _
set_option maxHeartbeats 4000000 in
set_option maxRecDepth 100000 in
theorem st_meanDays (μ : pm_Mm) (hV : lr_V μ.1) : lr_StD mi_L_meanDays mi_X10_meanDays [.ref 0, .ref 56] [.ref 47] μ := by
  obtain ⟨g, c, n, F, hV⟩ := hV
  obtain ⟨a1, hI, a3, a4, a5, a6, a7, a8, a9, a10⟩ := id hV
  have hG := hI.1
  have hm1 := lr_mh hG; have hm2 := lr_mw hG; have hm3 := lr_mp hG; have hm4 := lr_mr hG; have hm5 := lr_ma hG; have hm6 := lr_ml hG
  unfold lr_StD
  have hD := lr_sm1_D hI
  have hmD := lr_mD hG
  by_cases hz : lr_n g 1 = 0
  · refine c_L_meanDays μ (c_X9_meanDays_no μ a3 hG hz) _ (fun _ _ h => h.elim) ?_
    rintro _ _ ⟨rfl, h9⟩; rw [h9]; clear h9
    refine ⟨rfl, _, rfl, (c_X10_meanDays_no μ a1 hG (by rw [hD, hz]; rfl)).imp ?_ (fun _ _ h => h.elim)⟩
    rintro _ _ ⟨rfl, h9⟩; rw [h9]; clear h9
    exact ⟨_, rfl, (lr_thr_v hV).1, fun q => absurd q (by decide), (lr_thr_v hV).2⟩
  · have hz2 : ¬ lr_sum (lr_smn g 1) (lr_n g 289) = 0 := fun q => by
      rw [hD] at q
      have q2 : (nI (lr_n g 1)).toNatClampNeg = (0 : Int32).toNatClampNeg := by rw [q]
      rw [nI_clamp (by omega), show (0 : Int32).toNatClampNeg = 0 from by decide] at q2
      exact hz q2
    refine c_L_meanDays μ (c_X9_meanDays μ a3 hG (by omega)) _ ?_ (fun _ _ h => h.elim)
    rintro _ _ ⟨rfl, h9⟩; rw [h9]; clear h9
    refine ⟨_, rfl, _, rfl, (c_X10_meanDays (pm_setD μ 0 _) a1 hG hz2).imp ?_ (fun _ _ h => h.elim)⟩
    rintro _ _ ⟨rfl, h9⟩
    rw [lr_mean_D, hD, h9]; clear h9
    refine ⟨_, rfl, by rw [pm_set_at]; unfold upd; simp, fun _ => ?_, _, _, _, _, hV.same (fun i h1 h2 => by rw [pm_set_off h1]; rfl) (fun j h1 => by rw [pm_set_miss (Or.inr h1)]; rfl)⟩
    show (pm_setD μ 0 _).2.2.1 0 = _
    unfold pm_setD; simp
set_option maxHeartbeats 4000000 in
set_option maxRecDepth 100000 in
theorem st_restore (μ : pm_Mm) (hV : lr_V μ.1) : lr_StV mi_L_restore mi_X10_restore [.ref 0] [.ref 47] μ := by
  obtain ⟨g, c, n, F, hV⟩ := hV
  obtain ⟨a1, hI, a3, a4, a5, a6, a7, a8, a9, a10⟩ := id hV
  have hG := hI.1
  have hm1 := lr_mh hG; have hm2 := lr_mw hG; have hm3 := lr_mp hG; have hm4 := lr_mr hG; have hm5 := lr_ma hG; have hm6 := lr_ml hG
  unfold lr_StV
  rcases a7 with ⟨s1, s2⟩ | ⟨s1, s2, s3, s4⟩
  · refine c_L_restore μ (c_X9_restore_no (k := g) μ s1) _ (fun _ _ h => h.elim) ?_
    rintro _ _ ⟨rfl, h9⟩; rw [h9]; clear h9
    refine ⟨rfl, _, rfl, (c_X10_restore_no μ s2).imp ?_ (fun _ _ h => h.elim)⟩
    rintro _ _ ⟨rfl, h9⟩; rw [h9]; clear h9
    exact ⟨rfl, lr_thr_v hV⟩
  · refine c_L_restore μ (c_X9_restore μ s1 s3 s4.1.B) _ ?_ (fun _ _ h => h.elim)
    rintro _ _ ⟨rfl, M, f1, f2, f3, h9⟩; rw [h9]; clear h9
    have o : ∀ i, (i = 0 ∨ (39 < i ∧ i < 96 ∧ i ≠ 45)) → (pm_set M 45 0 0).1 i = μ.1 i := fun i hi => by rw [pm_set_off (by omega)]; exact f1 i (by omega)
    have eH : lr_Hs (pm_set M 45 0 0).1 0 n F := ⟨by omega, a4.2.1, by rw [pm_set_at]; unfold upd; simp; rfl, by rw [pm_set_miss (Or.inr (by decide)), f1 45 (by omega)]; exact a4.2.2.2.1, fun k hk => absurd hk (by omega)⟩
    have eR : lr_Rel (pm_set M 45 0 0).1 1 (μ.1 49) := f3.fr (fun i h1 h2 => pm_set_off (by omega))
    refine ⟨rfl, _, rfl, (c_X10_restore (pm_set M 45 0 0) (by rw [o 47 (by omega)]; exact s2)).imp ?_ (fun _ _ h => h.elim)⟩
    rintro _ _ ⟨rfl, h9⟩; rw [h9]; clear h9
    refine ⟨rfl, ?_, _, _, _, _, hV.back o eR eH (c2 := 0) ?_ ?_ ?_ (by omega) ?_ s4⟩
    · rw [pm_set_miss (Or.inr (by decide)), pm_row_off (by decide), pm_set_at]; unfold upd; simp
    · intro i h1 h2; rw [pm_set_off h1, pm_row_off h2, pm_set_off h1]
    · intro k h1 h2; rw [pm_set_miss (Or.inr h1), pm_row_off (by decide), pm_set_miss (Or.inr h2)]
    · rw [pm_set_at]; unfold upd; simp; rfl
    · intro x hx
      rw [pm_set_off (by decide), pm_row_at]; unfold lr_cpy
      rw [if_pos (by omega), Nat.zero_add, Nat.sub_zero, o 49 (by omega)]
set_option maxHeartbeats 4000000 in
set_option maxRecDepth 100000 in
theorem st_today (μ : pm_Mm) (hV : lr_V μ.1) : lr_StR mi_X9_today mi_X10_today [.ref 0] [.ref 47] μ := by
  obtain ⟨g, c, n, F, hV⟩ := hV
  obtain ⟨a1, hI, a3, a4, a5, a6, a7, a8, a9, a10⟩ := id hV
  have hG := hI.1
  have hm1 := lr_mh hG; have hm2 := lr_mw hG; have hm3 := lr_mp hG; have hm4 := lr_mr hG; have hm5 := lr_ma hG; have hm6 := lr_ml hG
  unfold lr_StR
  refine (c_X9_today μ a3 hG).imp ?_ (fun _ _ h => h.elim)
  rintro _ _ ⟨rfl, h9⟩; rw [h9]; clear h9
  refine ⟨_, rfl, (c_X10_today μ a1 hG).imp ?_ (fun _ _ h => h.elim)⟩
  rintro _ _ ⟨rfl, h9⟩; rw [h9]; clear h9
  exact ⟨rfl, (lr_thr_v hV).2⟩
set_option maxHeartbeats 4000000 in
set_option maxRecDepth 100000 in
theorem st_faultPosition (μ : pm_Mm) (hV : lr_V μ.1) : lr_StR mi_X9_faultPosition mi_X10_faultPosition [.ref 0] [.ref 47] μ := by
  obtain ⟨g, c, n, F, hV⟩ := hV
  obtain ⟨a1, hI, a3, a4, a5, a6, a7, a8, a9, a10⟩ := id hV
  have hG := hI.1
  have hm1 := lr_mh hG; have hm2 := lr_mw hG; have hm3 := lr_mp hG; have hm4 := lr_mr hG; have hm5 := lr_ma hG; have hm6 := lr_ml hG
  unfold lr_StR
  refine (c_X9_faultPosition μ a3 hG).imp ?_ (fun _ _ h => h.elim)
  rintro _ _ ⟨rfl, h9⟩; rw [h9]; clear h9
  refine ⟨_, rfl, (c_X10_faultPosition μ).imp ?_ (fun _ _ h => h.elim)⟩
  rintro _ _ ⟨rfl, h9⟩; rw [h9]; clear h9
  exact ⟨by rw [a8], (lr_thr_v hV).2⟩
