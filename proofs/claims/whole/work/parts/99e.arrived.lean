/-! the text taken in: both sides the same -/
theorem lr_Fk.off {μ M : pm_Mm} {k : Nat} (h : lr_Fk μ k M) {i : Nat} (h1 : ¬ (40 ≤ i ∧ i ≤ 43)) : M.1 i = μ.1 i := funext fun j => h.1 i j (by omega) (by omega)
theorem lr_Fa.off {μ M : pm_Mm} {k : Nat} (h : lr_Fa μ k M) {i : Nat} (h1 : i ≠ 54) (h2 : i ≠ 47) : M.1 i = μ.1 i := funext fun j => h.1 i j h1 (by omega)
theorem lr_Vt.z {f : Nat → Nat → Int32} (h1 : f 40 0 = 0) (h2 : f 47 11 = 0) : lr_Vt f := ⟨0, by omega, h1, h2, fun i hi => absurd hi (by omega)⟩
set_option maxHeartbeats 4000000 in
set_option maxRecDepth 100000 in
theorem st_arrive (μ : pm_Mm) (hV : lr_V μ.1) : lr_St mi_L_arrive mi_X10_arrive [.ref 0, .ref 55] [.ref 47] μ := by
  obtain ⟨g, c, n, F, hV⟩ := hV
  obtain ⟨a1, hI, a3, a4, a5, a6, a7, a8, a9, a10⟩ := id hV
  have hG := hI.1
  have hm1 := lr_mh hG; have hm2 := lr_mw hG; have hm3 := lr_mp hG; have hm4 := lr_mr hG; have hm5 := lr_ma hG; have hm6 := lr_ml hG
  unfold lr_St
  obtain ⟨m, hm40, t1, t2, t3⟩ := a10
  have hfu : lr_rd (μ.1 53) m 40 0 [] = lr_rd (μ.1 53) m 41 0 [] := lr_rd_fuel 40 41 0 [] (by omega) (by omega) (by omega)
  have hLk : ∀ x, x ∈ (lr_rd (μ.1 53) m 40 0 []).2 → lr_Lk x := lr_rd_Lk 40 0 [] (fun x hx => by simp at hx)
  generalize hR : lr_rd (μ.1 53) m 40 0 [] = R at hfu hLk
  by_cases hf : R.1 = -1
  · by_cases hw : lr_why (lr_n g 35) (lr_n g 289) R.2 = 0
    · refine c_L_arrive μ (c_X9_arrive (t := μ.1 53) μ t1 hm40 t3 (by rw [hR]; exact hf) a3 hG a4 (by rw [hR]; exact hLk) (by rw [hR]; exact hw)) _ ?_ (fun _ _ h => h.elim)
      rintro _ C ⟨rfl, M, b0, b1, b2, b3⟩
      rw [hR] at b2 ⊢
      have o : ∀ i, (i = 0 ∨ (39 < i ∧ i < 96 ∧ i ≠ 45)) → C.1 i = (pm_set (pm_set M 0 5 (-1)) 40 0 0).1 i := fun i hi => b1.1 i hi
      have oM : ∀ i, 43 < i → i < 96 → i ≠ 45 → C.1 i = μ.1 i := fun i h1 h2 h3 => by rw [o i (by omega), pm_set_off (by omega), pm_set_off (by omega), b0.off (by omega)]
      have o0 : ∀ k, k ≠ 5 → C.1 0 k = μ.1 0 k := fun k hk => by rw [o 0 (by omega), pm_set_off (by decide), pm_set_miss (Or.inr hk), b0.off (by omega)]
      refine ⟨_, rfl, _, rfl, (c_X10_arrive (t := μ.1 53) (n := m) (pm_setL C 0 _) (show C.1 47 11 = nI m by rw [oM 47 (by omega) (by omega) (by omega)]; exact t2) hm40 (fun i _ => show C.1 53 i = μ.1 53 i by rw [oM 53 (by omega) (by omega) (by omega)]) (show C.1 48 = g by rw [oM 48 (by omega) (by omega) (by omega)]; exact a1) hG (show C.1 47 5 = nI c by rw [oM 47 (by omega) (by omega) (by omega)]; exact a5.1) a4.1 (by rw [← hfu]; exact hf)).imp ?_ (fun _ _ h => h.elim)⟩
      rintro v9 M2 ⟨M1, d1, d2, -⟩
      rw [← hfu] at d2
      obtain ⟨rfl, M3, e1, e2, rfl⟩ := d2 hw
      obtain ⟨p1, p2, p50⟩ := e1
      have r : ∀ i, i ≠ 47 → i ≠ 48 → i ≠ 50 → i ≠ 54 → M3.1 i = C.1 i := fun i h1 h2 h3 h4 => by
        rw [p1 i h2 h3, pm_set_off h1, pm_set_off h1, d1.off h4 h1, pm_set_off h1]; rfl
      have r2 : ∀ i, i ≠ 47 → i ≠ 48 → i ≠ 50 → i ≠ 51 → i ≠ 54 → (lr_chg M3 50).1 i = C.1 i := fun i h1 h2 h3 h4 h5 => by rw [lr_chg_off h1 h4]; exact r i h1 h2 h3 h5
      have r47 : ∀ k, k ≠ 11 → k ≠ 12 → k ≠ 13 → k ≠ 15 → M3.1 47 k = (pm_set (pm_setL C 0 (nI R.2.length).toInt64) 47 7 0).1 47 k := fun k h1 h2 h3 h4 => by
        rw [p1 47 (by decide) (by decide), pm_set_miss (Or.inr h1), pm_set_miss (Or.inr h3), d1.1 47 k (by decide) (by omega)]
      have r47c : ∀ k, k ≠ 7 → k ≠ 11 → k ≠ 12 → k ≠ 13 → k ≠ 15 → M3.1 47 k = μ.1 47 k := fun k h0 h1 h2 h3 h4 => by
        rw [r47 k h1 h2 h3 h4, pm_set_miss (Or.inr h0)]
        show C.1 47 k = _
        rw [oM 47 (by omega) (by omega) (by omega)]
      have hP0 : lr_Ps M3.1 c F := a5.fr (r47c 5 (by decide) (by decide) (by decide) (by decide) (by decide)) (by rw [r 51 (by decide) (by decide) (by decide) (by decide), oM 51 (by omega) (by omega) (by omega)])
      have hP := lr_chg_ps (S := 50) hP0 a4.1
      have hP2 : lr_Ps (lr_chg M3 50).1 (min (c + 1) 8) (lr_psh c F g) := hP.cg (fun k hk y hy => by
        have e : M3.1 50 y = g y := by
          rw [p50 y hy, pm_set_off (by decide), pm_set_off (by decide), d1.off (by decide) (by decide), pm_set_off (by decide)]
          show C.1 48 y = g y
          rw [oM 48 (by omega) (by omega) (by omega), a1]
        unfold lr_psh
        by_cases e8 : c = 8
        · simp only [if_pos e8]
          by_cases e7 : k < 7
          · simp only [if_pos e7]
          · simp only [if_neg e7]; exact e
        · simp only [if_neg e8]
          by_cases e7 : k = c
          · simp only [if_pos e7]; exact e
          · simp only [if_neg e7])
      refine ⟨_, rfl, ?_, fun _ => ?_, lr_adds g R.2, min (c + 1) 8, (n + 1) % 8, lr_psh c F g, ?_, hI.ls R.2 hLk hw, b2.fr (fun i h1 h2 => r2 i (by omega) (by omega) (by omega) (by omega) (by omega)), b3.fr (fun i h1 => r2 i (by omega) (by omega) (by omega) (by omega) (by omega)), hP2, lr_psh_I a4.1 a6 hI, a7.fr ?_ ?_ ?_ (fun i h1 h2 => ?_), ?_, a9.fr ?_ ?_, lr_Vt.z ?_ ?_⟩
      · rw [lr_chg_47 (by decide), r47 7 (by decide) (by decide) (by decide) (by decide), pm_set_at]; unfold upd; simp
      · rw [lr_chg_2, p2]
        show M1.2.1 0 = _
        rw [d1.2.1]; exact lr_L_at
      · rw [lr_chg_off (by decide) (by decide)]; exact e2
      · rw [r2 0 (by decide) (by decide) (by decide) (by decide) (by decide), o0 3 (by decide)]
      · rw [lr_chg_47 (by decide), r47c 3 (by decide) (by decide) (by decide) (by decide) (by decide)]
      · rw [r2 49 (by decide) (by decide) (by decide) (by decide) (by decide), oM 49 (by omega) (by omega) (by omega)]
      · rw [r2 i (by omega) (by omega) (by omega) (by omega) (by omega), oM i (by omega) (by omega) (by omega)]
      · rw [r2 0 (by decide) (by decide) (by decide) (by decide) (by decide), o 0 (by omega), pm_set_off (by decide), pm_set_at, lr_chg_47 (by decide), p1 47 (by decide) (by decide), pm_set_miss (Or.inr (by decide)), pm_set_at]; unfold upd; simp
      · rw [r2 0 (by decide) (by decide) (by decide) (by decide) (by decide), o0 6 (by decide)]
      · rw [lr_chg_47 (by decide), r47c 6 (by decide) (by decide) (by decide) (by decide) (by decide)]
      · rw [r2 40 (by decide) (by decide) (by decide) (by decide) (by decide), o 40 (by omega), pm_set_at]; unfold upd; simp
      · rw [lr_chg_47 (by decide), p1 47 (by decide) (by decide), pm_set_at]; unfold upd; simp
    · refine c_L_arrive μ (c_X9_arrive_r (t := μ.1 53) μ t1 hm40 t3 (by rw [hR]; exact hf) a3 hG (by rw [hR]; exact hw)) _ (fun _ _ h => h.elim) ?_
      rintro _ C ⟨rfl, M, b0, b1⟩
      rw [hR] at b1
      have oM : ∀ i, i ≠ 0 → ¬ (40 ≤ i ∧ i ≤ 43) → C.1 i = μ.1 i := fun i h1 h2 => by rw [b1, pm_set_off h1, pm_set_off (by omega), pm_set_off h1, b0.off h2]
      have o0 : ∀ k, k ≠ 5 → k ≠ 6 → C.1 0 k = μ.1 0 k := fun k h1 h2 => by rw [b1, pm_set_miss (Or.inr h2), pm_set_off (by decide), pm_set_miss (Or.inr h1), b0.off (by omega)]
      refine Or.inr ⟨rfl, _, rfl, (c_X10_arrive (t := μ.1 53) (n := m) C (by rw [oM 47 (by omega) (by omega)]; exact t2) hm40 (fun i _ => by rw [oM 53 (by omega) (by omega)]) (by rw [oM 48 (by omega) (by omega)]; exact a1) hG (c := c) (by rw [oM 47 (by omega) (by omega)]; exact a5.1) a4.1 (by rw [← hfu]; exact hf)).imp ?_ (fun _ _ h => h.elim)⟩
      rintro v9 M2 ⟨M1, d1, -, d2⟩
      rw [← hfu] at d2
      obtain ⟨rfl, M3, e1, e2⟩ := d2 hw
      have r : ∀ i, i ≠ 47 → i ≠ 50 → i ≠ 54 → M2.1 i = C.1 i := fun i h1 h3 h4 => by
        rw [e2, pm_set_off h1, pm_set_off h1, e1.1 i h3, pm_set_off h1, pm_set_off h1, d1.off h4 h1, pm_set_off h1]
      have r47 : ∀ k, k ≠ 6 → k ≠ 7 → k ≠ 11 → k ≠ 12 → k ≠ 13 → k ≠ 15 → M2.1 47 k = μ.1 47 k := fun k h6 h7 h1 h2 h3 h4 => by
        rw [e2, pm_set_miss (Or.inr h7), pm_set_miss (Or.inr h6), e1.1 47 (by decide), pm_set_miss (Or.inr h1), pm_set_miss (Or.inr h3), d1.1 47 k (by decide) (by omega), pm_set_miss (Or.inr h7), oM 47 (by omega) (by omega)]
      refine ⟨_, rfl, ?_, fun h => absurd h (by decide), g, c, n, F, hV.tx (fun i h1 h2 h3 h4 h5 h6 => ?_) ?_ (r47 3 (by decide) (by decide) (by decide) (by decide) (by decide) (by decide)) (r47 5 (by decide) (by decide) (by decide) (by decide) (by decide) (by decide)) ?_ (Or.inr ⟨?_, ?_, ?_⟩) (lr_Vt.z ?_ ?_)⟩
      · rw [e2, pm_set_at]; unfold upd; simp
      · rw [r i h2 h3 h5, oM i h1 (by omega)]
      · rw [r 0 (by decide) (by decide) (by decide), o0 3 (by decide) (by decide)]
      · rw [r 0 (by decide) (by decide) (by decide), b1, pm_set_miss (Or.inr (by decide)), pm_set_off (by decide), pm_set_at, e2, pm_set_miss (Or.inr (by decide)), pm_set_miss (Or.inr (by decide)), e1.1 47 (by decide), pm_set_miss (Or.inr (by decide)), pm_set_at]; unfold upd; simp
      · rw [e2, pm_set_miss (Or.inr (by decide)), pm_set_at]; unfold upd; simpa using hw
      · rw [r 0 (by decide) (by decide) (by decide), b1, pm_set_at, e2, pm_set_miss (Or.inr (by decide)), pm_set_at]; unfold upd; simp
      · rw [r 0 (by decide) (by decide) (by decide), b1, pm_set_at]; unfold upd; simpa using lr_why_v _ _ _
      · rw [r 40 (by decide) (by decide) (by decide), b1, pm_set_off (by decide), pm_set_at]; unfold upd; simp
      · rw [e2, pm_set_miss (Or.inr (by decide)), pm_set_miss (Or.inr (by decide)), e1.1 47 (by decide), pm_set_at]; unfold upd; simp
  · refine c_L_arrive μ (c_X9_arrive_f (t := μ.1 53) μ t1 hm40 t3 (by rw [hR]; exact hf)) _ (fun _ _ h => h.elim) ?_
    rintro _ C ⟨rfl, M, b0, b1⟩
    rw [hR] at b1
    have oM : ∀ i, i ≠ 0 → ¬ (40 ≤ i ∧ i ≤ 43) → C.1 i = μ.1 i := fun i h1 h2 => by rw [b1, pm_set_off (by omega), pm_set_off h1, b0.off h2]
    have o0 : ∀ k, k ≠ 5 → C.1 0 k = μ.1 0 k := fun k h1 => by rw [b1, pm_set_off (by decide), pm_set_miss (Or.inr h1), b0.off (by omega)]
    refine Or.inl ⟨rfl, _, rfl, (c_X10_arrive_f (t := μ.1 53) (n := m) C (by rw [oM 47 (by omega) (by omega)]; exact t2) hm40 (fun i _ => by rw [oM 53 (by omega) (by omega)]) (by rw [← hfu]; exact hf)).imp ?_ (fun _ _ h => h.elim)⟩
    rintro _ M2 ⟨rfl, M1, d1, e2⟩
    rw [← hfu] at e2
    have r : ∀ i, i ≠ 47 → i ≠ 54 → M2.1 i = C.1 i := fun i h1 h4 => by
      rw [e2, pm_set_off h1, pm_set_off h1, pm_set_off h1, d1.off h4 h1, pm_set_off h1]
    have r47 : ∀ k, k ≠ 7 → k ≠ 11 → k ≠ 12 → k ≠ 13 → k ≠ 15 → M2.1 47 k = μ.1 47 k := fun k h7 h1 h2 h3 h4 => by
      rw [e2, pm_set_miss (Or.inr h7), pm_set_miss (Or.inr h1), pm_set_miss (Or.inr h3), d1.1 47 k (by decide) (by omega), pm_set_miss (Or.inr h7), oM 47 (by omega) (by omega)]
    refine ⟨_, rfl, ?_, fun h => absurd h (by decide), g, c, n, F, hV.tx (fun i h1 h2 h3 h4 h5 h6 => ?_) ?_ (r47 3 (by decide) (by decide) (by decide) (by decide) (by decide)) (r47 5 (by decide) (by decide) (by decide) (by decide) (by decide)) ?_ (a9.fr ?_ (r47 6 (by decide) (by decide) (by decide) (by decide) (by decide))) (lr_Vt.z ?_ ?_)⟩
    · rw [e2, pm_set_at]; unfold upd; simp
    · rw [r i h2 h5, oM i h1 (by omega)]
    · rw [r 0 (by decide) (by decide), o0 3 (by decide)]
    · rw [r 0 (by decide) (by decide), b1, pm_set_off (by decide), pm_set_at, e2, pm_set_miss (Or.inr (by decide)), pm_set_miss (Or.inr (by decide)), pm_set_at]; unfold upd; simp
    · rw [r 0 (by decide) (by decide), o0 6 (by decide)]
    · rw [r 40 (by decide) (by decide), b1, pm_set_at]; unfold upd; simp
    · rw [e2, pm_set_miss (Or.inr (by decide)), pm_set_at]; unfold upd; simp
