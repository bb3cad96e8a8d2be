/-! more steps of the law: save, the text -/
theorem lr_rd_Lk {t : Nat → Int32} {n : Nat} : ∀ (f s : Nat) (A : List (Int32 × Int32 × Int32)), (∀ x, x ∈ A → lr_Lk x) → ∀ x, x ∈ (lr_rd t n f s A).2 → lr_Lk x := by
  intro f
  induction f with
  | zero => intro s A hA; exact hA
  | succ f ih =>
    intro s A hA
    unfold lr_rd
    rcases e : lr_let t n s with ⟨_ | y, s2⟩
    · exact hA
    · have hy := (lr_let_rng e).2.2
      have hA2 : ∀ x, x ∈ A ++ [y] → lr_Lk x := fun x hx => by
        rcases List.mem_append.mp hx with h | h
        · exact hA x h
        · rw [List.mem_singleton.mp h]; exact hy
      dsimp only
      split
      · exact hA2
      · split
        · exact ih _ _ hA2
        · exact hA2
theorem lr_why_v (np : Nat) : ∀ (L : List (Int32 × Int32 × Int32)) (c : Nat), ¬ lr_why np c L = -1
  | [], c => by unfold lr_why; decide
  | x :: L, c => by
    unfold lr_why
    split
    · decide
    · split
      · decide
      · exact lr_why_v np L (c + 1)
theorem lr_Vv.tx {f f2 : Nat → Nat → Int32} {g : Nat → Int32} {c n : Nat} {F : Nat → Nat → Int32} (h : lr_Vv f g c n F) (hm : ∀ i, i ≠ 0 → i ≠ 47 → i ≠ 50 → i ≠ 53 → i ≠ 54 → ¬ (40 ≤ i ∧ i ≤ 44) → f2 i = f i) (h3 : f2 0 3 = f 0 3) (k3 : f2 47 3 = f 47 3) (k5 : f2 47 5 = f 47 5) (h5 : f2 0 5 = f2 47 13) (hr : lr_Vr f2) (ht : lr_Vt f2) : lr_Vv f2 g c n F := by
  obtain ⟨a1, a2, a3, a4, a5, a6, a7, a8, a9, a10⟩ := h
  exact ⟨(hm 48 (by decide) (by decide) (by decide) (by decide) (by decide) (by omega)).trans a1, a2, a3.fr (fun i h1 h2 => hm i (by omega) (by omega) (by omega) (by omega) (by omega) (by omega)), a4.fr (fun i h1 => hm i (by omega) (by omega) (by omega) (by omega) (by omega) (by omega)), a5.fr k5 (hm 51 (by decide) (by decide) (by decide) (by decide) (by decide) (by omega)), a6, a7.fr h3 k3 (hm 49 (by decide) (by decide) (by decide) (by decide) (by decide) (by omega)) (fun i h1 h2 => hm i (by omega) (by omega) (by omega) (by omega) (by omega) (by omega)), h5, hr, ht⟩
set_option maxHeartbeats 4000000 in
set_option maxRecDepth 100000 in
theorem st_save (μ : pm_Mm) (hV : lr_V μ.1) : lr_StN mi_X9_save mi_X10_save [.ref 0] [.ref 47] μ := by
  obtain ⟨g, c, n, F, hV⟩ := hV
  obtain ⟨a1, hI, a3, a4, a5, a6, a7, a8, a9, a10⟩ := id hV
  have hG := hI.1
  have hm1 := lr_mh hG; have hm2 := lr_mw hG; have hm3 := lr_mp hG; have hm4 := lr_mr hG; have hm5 := lr_ma hG; have hm6 := lr_ml hG
  unfold lr_StN
  refine (c_X9_save μ a3 hG).imp ?_ (fun _ _ h => h.elim)
  rintro _ _ ⟨rfl, M, f1, f2, f3, h9⟩; rw [h9]; clear h9
  have o : ∀ i, i ≠ 0 → (i < 57 ∨ 95 < i) → (pm_set M 0 3 1).1 i = μ.1 i := fun i h0 hi => by rw [pm_set_off h0]; exact f1 i hi
  refine ⟨rfl, (c_X10_save (pm_set M 0 3 1)).imp ?_ (fun _ _ h => h.elim)⟩
  rintro _ _ ⟨rfl, h9⟩; rw [h9]; clear h9
  generalize hM2 : pm_row (pm_set (pm_set (pm_set M 0 3 1) 47 7 0) 47 3 1) 49 (lr_cpy ((pm_set M 0 3 1).1 48) ((pm_set M 0 3 1).1 49) 0 0 620) = M2
  have q : ∀ i, i ≠ 0 → i ≠ 47 → i ≠ 49 → (i < 57 ∨ 95 < i) → M2.1 i = μ.1 i := fun i h0 h1 h2 h3 => by rw [← hM2, pm_row_off h2, pm_set_off h1, pm_set_off h1]; exact o i h0 h3
  have q47 : ∀ k, k ≠ 3 → k ≠ 7 → M2.1 47 k = μ.1 47 k := fun k h1 h2 => by rw [← hM2, pm_row_off (by decide), pm_set_miss (Or.inr h1), pm_set_miss (Or.inr h2), o 47 (by decide) (by omega)]
  have q0 : ∀ k, k ≠ 3 → M2.1 0 k = μ.1 0 k := fun k h1 => by rw [← hM2, pm_row_off (by decide), pm_set_off (by decide), pm_set_off (by decide), pm_set_miss (Or.inr h1), f1 0 (by omega)]
  have q49 : ∀ x, x < 620 → M2.1 49 x = g x := fun x hx => by
    rw [← hM2, pm_row_at]; unfold lr_cpy
    rw [if_pos (by omega), Nat.zero_add, Nat.sub_zero, o 48 (by decide) (by omega), a1]
  refine ⟨rfl, g, c, n, F, (q 48 (by decide) (by decide) (by decide) (by omega)).trans a1, hI, a3.fr (fun i h1 h2 => q i (by omega) (by omega) (by omega) (by omega)), a4.fr (fun i h1 => q i (by omega) (by omega) (by omega) (by omega)), a5.fr (q47 5 (by decide) (by decide)) (q 51 (by decide) (by decide) (by decide) (by omega)), a6, Or.inr ⟨?_, ?_, ?_, hI.cg q49⟩, ?_, a9.fr (q0 6 (by decide)) (q47 6 (by decide) (by decide)), a10.fr (by rw [q 40 (by decide) (by decide) (by decide) (by omega)]) (q47 11 (by decide) (by decide)) (q 44 (by decide) (by decide) (by decide) (by omega)) (q 53 (by decide) (by decide) (by decide) (by omega))⟩
  · rw [← hM2, pm_row_off (by decide), pm_set_off (by decide), pm_set_off (by decide), pm_set_at]; unfold upd; simp
  · rw [← hM2, pm_row_off (by decide), pm_set_at]; unfold upd; simp
  · exact (f3.fr (fun i h1 h2 => by rw [← hM2, pm_row_off (by omega), pm_set_off (by omega), pm_set_off (by omega), pm_set_off (by omega)])).cg hG.B q49
  · rw [q0 5 (by decide), q47 13 (by decide) (by decide)]; exact a8
set_option maxHeartbeats 4000000 in
set_option maxRecDepth 100000 in
theorem st_append (x0 : Int32) (μ : pm_Mm) (hV : lr_V μ.1) (hy : narrow .char (.int x0) = .int x0) : lr_StV mi_L_append mi_X10_append [.ref 0, .int x0] [.ref 47, .int x0] μ := by
  obtain ⟨g, c, n, F, hV⟩ := hV
  obtain ⟨a1, hI, a3, a4, a5, a6, a7, a8, a9, a10⟩ := id hV
  have hG := hI.1
  have hm1 := lr_mh hG; have hm2 := lr_mw hG; have hm3 := lr_mp hG; have hm4 := lr_mr hG; have hm5 := lr_ma hG; have hm6 := lr_ml hG
  unfold lr_StV
  obtain ⟨m, hm40, t1, t2, t3⟩ := a10
  by_cases hf : m = 40
  · refine c_L_append μ (c_X9_append_no x0 μ (by rw [t1, hf]; rfl)) _ (fun _ _ h => h.elim) ?_
    rintro _ _ ⟨rfl, h9⟩; rw [h9]; clear h9
    refine ⟨rfl, _, rfl, (c_X10_append_no x0 μ (by rw [t2, hf]; rfl)).imp ?_ (fun _ _ h => h.elim)⟩
    rintro _ _ ⟨rfl, h9⟩; rw [h9]; clear h9
    exact ⟨rfl, lr_thr_v hV⟩
  · refine c_L_append μ (c_X9_append x0 μ hy t1 (by omega)) _ ?_ (fun _ _ h => h.elim)
    rintro _ _ ⟨rfl, h9⟩; rw [h9]; clear h9
    refine ⟨rfl, _, rfl, (c_X10_append x0 (pm_set (pm_set μ 44 m x0) 40 0 (nI (m + 1))) (n := m) (by rw [pm_set_off (by decide), pm_set_off (by decide)]; exact t2) (by omega)).imp ?_ (fun _ _ h => h.elim)⟩
    rintro _ _ ⟨rfl, h9⟩; rw [h9]; clear h9
    generalize hM2 : pm_set (pm_set (pm_set (pm_set (pm_set μ 44 m x0) 40 0 (nI (m + 1))) 47 7 0) 53 m x0) 47 11 (nI (m + 1)) = M2
    have q : ∀ i, i ≠ 40 → i ≠ 44 → i ≠ 47 → i ≠ 53 → M2.1 i = μ.1 i := fun i h0 h1 h2 h3 => by rw [← hM2, pm_set_off h2, pm_set_off h3, pm_set_off h2, pm_set_off h0, pm_set_off h1]
    have q47 : ∀ k, k ≠ 11 → k ≠ 7 → M2.1 47 k = μ.1 47 k := fun k h1 h2 => by rw [← hM2, pm_set_miss (Or.inr h1), pm_set_off (by decide), pm_set_miss (Or.inr h2), pm_set_off (by decide), pm_set_off (by decide)]
    refine ⟨rfl, ?_, g, c, n, F, hV.tx (fun i h1 h2 h3 h4 h5 h6 => q i (by omega) (by omega) h2 h4) (by rw [q 0 (by decide) (by decide) (by decide) (by decide)]) (q47 3 (by decide) (by decide)) (q47 5 (by decide) (by decide)) ?_ (a9.fr (by rw [q 0 (by decide) (by decide) (by decide) (by decide)]) (q47 6 (by decide) (by decide))) ⟨m + 1, by omega, ?_, ?_, ?_⟩⟩
    · rw [← hM2, pm_set_miss (Or.inr (by decide)), pm_set_off (by decide), pm_set_at]; unfold upd; simp
    · rw [q 0 (by decide) (by decide) (by decide) (by decide), q47 13 (by decide) (by decide)]; exact a8
    · rw [← hM2, pm_set_off (by decide), pm_set_off (by decide), pm_set_off (by decide), pm_set_at]; unfold upd; simp
    · rw [← hM2, pm_set_at]; unfold upd; simp
    · intro i hi
      rw [← hM2, pm_set_off (by decide), pm_set_off (by decide), pm_set_off (by decide), pm_set_off (by decide), pm_set_at, pm_set_off (by decide), pm_set_at]
      unfold upd
      by_cases e : i = m
      · rw [if_pos e, if_pos e]
      · rw [if_neg e, if_neg e, pm_set_off (by decide), pm_set_off (by decide), pm_set_off (by decide)]; exact t3 i (by omega)
