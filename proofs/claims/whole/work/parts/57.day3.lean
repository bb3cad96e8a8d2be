/-! a day gone by keeps all that is known -/
theorem lr_nums_ok : ∀ (S : List Nat) (g : Nat → Int32), lr_G g → lr_N g → S.Nodup → (∀ s, s ∈ S → s < lr_n g 289 ∧ g (300 + 11 * s) = -1) → lr_G (lr_nums g S) ∧ lr_N (lr_nums g S) ∧ (∀ l, l < lr_n g 289 → (¬ lr_nums g S (300 + 11 * l) = -1 ↔ (¬ g (300 + 11 * l) = -1 ∨ l ∈ S))) ∧ lr_n (lr_nums g S) 1 = lr_n g 1 + S.length := by
  intro S
  induction S with
  | nil => intro g hG hN _ _; exact ⟨hG, hN, fun l _ => by simp [lr_nums], by simp [lr_nums]⟩
  | cons s S ih =>
    intro g hG hN hnd hS
    rw [List.nodup_cons] at hnd
    obtain ⟨hs, hs2⟩ := hS s (List.mem_cons_self ..)
    obtain ⟨hN2, hlt⟩ := hN.num1 hG hs hs2
    have m6 := lr_ml hG
    have hG2 := lr_num1_G hG (s := s) (by omega)
    have e2 : lr_n (lr_num1 g s) 289 = lr_n g 289 := by unfold lr_n; rw [lr_num1_o (by omega) (by omega)]
    have es : ¬ lr_num1 g s (300 + 11 * s) = -1 := by
      unfold lr_num1; rw [upd_ne (by omega), upd_eq, lr_gD hG]; exact lr_ne1 (by omega)
    have eo : ∀ l, l ≠ s → lr_num1 g s (300 + 11 * l) = g (300 + 11 * l) := fun l hl => lr_num1_o (by omega) (by omega)
    obtain ⟨q1, q2, q3, q4⟩ := ih (lr_num1 g s) hG2 hN2 hnd.2 (fun t ht => by
      have q := hS t (List.mem_cons_of_mem _ ht)
      rw [e2, eo t (fun e => hnd.1 (e ▸ ht))]; exact q)
    simp only [lr_nums]
    refine ⟨q1, q2, fun l hl => ?_, by rw [q4, lr_num1_1 hG, List.length_cons]; omega⟩
    rw [q3 l (by rw [e2]; exact hl), List.mem_cons]
    by_cases e : l = s
    · subst e
      exact ⟨fun _ => Or.inr (Or.inl rfl), fun _ => Or.inl es⟩
    · rw [eo l e]
      constructor
      · rintro (h | h)
        · exact Or.inl h
        · exact Or.inr (Or.inr h)
      · rintro (h | h | h)
        · exact Or.inl h
        · exact absurd h e
        · exact Or.inr h
theorem lr_day_o {g : Nat → Int32} {x : Nat} (h0 : x ≠ 0) (h1 : x ≠ 1) (h2 : ∀ s, s ∈ lr_S g → x ≠ 300 + 11 * s) : lr_day g x = lr_mid g x := by
  unfold lr_day lr_gby; rw [upd_ne h0]; exact lr_nums_o _ h1 h2
theorem lr_day_sm {g : Nat → Int32} : lr_Sm g (lr_day g) := fun x h1 h2 => by rw [lr_day_o (by omega) (by omega) (fun s _ => by omega)]; exact lr_mid_sm x h1 h2
theorem lr_day_n {g : Nat → Int32} {x : Nat} (h1 : 2 ≤ x) (hx : x < 290) : lr_n (lr_day g) x = lr_n g x := by
  show (lr_day g x).toNatClampNeg = _
  rw [lr_day_o (by omega) (by omega) (fun s _ => by omega)]; exact lr_mid_n hx
theorem lr_day_T {g : Nat → Int32} (hG : lr_G g) : lr_n (lr_day g) 0 = lr_n g 0 + 1 := by
  have := lr_mT hG
  show (lr_day g 0).toNatClampNeg = _
  unfold lr_day lr_gby; rw [upd_eq, nI_clamp (by omega)]
theorem lr_day_D {g : Nat → Int32} (hI : lr_I g) : lr_n (lr_day g) 1 = lr_n g 1 + (lr_S g).length := by
  have hG := hI.1
  have q := (lr_nums_ok (lr_S g) (lr_mid g) (lr_mid_G hI) ((hI.2.2.2.1.N hG).cg (lr_pab_o (by omega)) (lr_pab_o (by omega)) (fun i hi => lr_mid_300 hG hi)) (lr_S_nd hG) (fun s hs => by
    obtain ⟨h1, h2⟩ := lr_S_mem.mp hs
    exact ⟨by rw [lr_mid_n (by omega)]; exact h1, by rw [lr_mid_300 hG h1]; exact lr_wait_300 hI.2.2.2.1 h1 (lr_due_wt h2)⟩)).2.2.2
  show (lr_day g 1).toNatClampNeg = _
  unfold lr_day lr_gby; rw [upd_ne (by omega)]
  show lr_n (lr_nums (lr_mid g) (lr_S g)) 1 = _
  rw [q, lr_mid_n (by omega)]
theorem lr_day_I {g : Nat → Int32} (hI : lr_I g) (hT : lr_n g 0 < 365) : lr_I (lr_day g) := by
  have hI0 := hI
  obtain ⟨hG, hX, hH, hC, hW⟩ := hI
  have hG2 := lr_mid_G hI0
  have hN := (hC.N hG).cg (g2 := lr_mid g) (lr_pab_o (by omega)) (lr_pab_o (by omega)) (fun i hi => lr_mid_300 hG hi)
  have hS : ∀ s, s ∈ lr_S g → s < lr_n (lr_mid g) 289 ∧ lr_mid g (300 + 11 * s) = -1 := fun s hs => by
    obtain ⟨h1, h2⟩ := lr_S_mem.mp hs
    exact ⟨by rw [lr_mid_n (by omega)]; exact h1, by rw [lr_mid_300 hG h1]; exact lr_wait_300 hC h1 (lr_due_wt h2)⟩
  obtain ⟨q1, q2, q3, q4⟩ := lr_nums_ok (lr_S g) (lr_mid g) hG2 hN (lr_S_nd hG) hS
  have m6 := lr_ml hG
  have en : lr_n (lr_day g) 289 = lr_n g 289 := lr_day_n (by omega) (by omega)
  have eN : lr_n (lr_nums (lr_mid g) (lr_S g)) 289 = lr_n g 289 := by
    show (lr_nums (lr_mid g) (lr_S g) 289).toNatClampNeg = _
    rw [lr_nums_o _ (by omega) (fun s _ => by omega)]; exact lr_mid_n (by omega)
  have e0 : lr_n (lr_nums (lr_mid g) (lr_S g)) 0 = lr_n g 0 := by
    show (lr_nums (lr_mid g) (lr_S g) 0).toNatClampNeg = _
    rw [lr_nums_o _ (by omega) (fun s _ => by omega)]; exact lr_mid_n (by omega)
  have ud : ∀ x, x ≠ 0 → lr_day g x = lr_nums (lr_mid g) (lr_S g) x := fun x hx => by unfold lr_day lr_gby; rw [upd_ne hx]; rfl
  have hGd : lr_G (lr_day g) := by
    refine q1.lt (fun x h1 h2 => ud x (by omega)) ?_ ?_ ?_ (fun i hi => ?_)
    · rw [lr_day_T hG]; exact ⟨by unfold lr_day lr_gby; rw [upd_eq], by omega⟩
    · have e : lr_n (lr_day g) 1 = lr_n (lr_nums (lr_mid g) (lr_S g)) 1 := by unfold lr_n; rw [ud 1 (by omega)]
      rw [e, ud 1 (by omega)]; exact q1.2.1
    · have e : lr_n (lr_day g) 289 = lr_n (lr_nums (lr_mid g) (lr_S g)) 289 := by unfold lr_n; rw [ud 289 (by omega)]
      rw [e, ud 289 (by omega)]; exact q1.2.2.2.2.2.2.2.1
    · rw [en] at hi
      refine (lr_Lc_of q1 (by rw [eN]; exact hi)).eq (fun c hc => ud _ (by omega)) ?_ (by rw [e0, lr_day_T hG]; omega)
      unfold lr_n; rw [ud 35 (by omega)]
  have hNd : lr_N (lr_day g) := q2.cg (ud 1 (by omega)) (ud 289 (by omega)) (fun i _ => ud _ (by omega))
  have e4 : ∀ l, l < lr_n g 289 → lr_day g (294 + 11 * l) = lr_one g (l) (294 + 11 * l) := fun l hl => by
    rw [lr_day_o (by omega) (by omega) (fun s _ => by omega)]; exact (lr_pab_at hG hl).at_ (by omega) (by omega)
  refine ⟨hGd, lr_day_sm.X hG hX, fun i j hi hj => ?_, hNd.C hGd (fun l hl => ?_), fun l hl hw => ?_⟩
  · have m1 := lr_mh hG
    rw [lr_day_n (by omega) (by omega)] at hi hj
    rw [lr_day_sm _ (by omega) (by omega), lr_day_sm _ (by omega) (by omega), lr_day_sm _ (by omega) (by omega), lr_day_sm _ (by omega) (by omega)]
    exact hH i j hi hj
  · rw [en] at hl
    rw [e4 l hl, ud _ (by omega), q3 l (by rw [lr_mid_n (by omega)]; exact hl), lr_mid_300 hG hl]
    by_cases hd : lr_due g l = true
    · rw [lr_one_due hd, lr_gdl0_4]
      exact ⟨fun _ => Or.inr (lr_S_mem.mpr ⟨hl, hd⟩), fun _ => rfl⟩
    · by_cases hw : g (294 + 11 * l) = 0
      · constructor
        · intro q
          rcases lr_one_nd hw (hW l hl hw) (by rw [Bool.not_eq_true] at hd; exact hd) with e | ⟨e, -⟩ <;> rw [e] at q <;> exact absurd q (by decide)
        · rintro (q | q)
          · exact absurd (lr_wait_300 hC hl hw) q
          · exact absurd (lr_S_mem.mp q).2 hd
      · rw [lr_one_no hw, hC.2.1 l hl]
        exact ⟨Or.inl, fun q => q.resolve_right (fun q => hd (lr_S_mem.mp q).2)⟩
  · rw [en] at hl
    rw [e4 l hl] at hw
    rw [lr_day_o (by omega) (by omega) (fun s _ => by omega), show lr_mid g (297 + 11 * l) = lr_one g l (297 + 11 * l) from (lr_pab_at hG hl).at_ (by omega) (by omega)]
    by_cases hd : lr_due g l = true
    · rw [lr_one_due hd, lr_gdl0_4] at hw; exact absurd hw (by decide)
    · by_cases h0 : g (294 + 11 * l) = 0
      · rcases lr_one_nd h0 (hW l hl h0) (by rw [Bool.not_eq_true] at hd; exact hd) with e | ⟨-, e⟩
        · rw [e] at hw; exact absurd hw (by decide)
        · exact e
      · rw [lr_one_no h0] at hw; exact absurd hw h0
/-- k days gone by -/
def lr_days (g : Nat → Int32) : Nat → Nat → Int32
  | 0 => g
  | k + 1 => lr_day (lr_days g k)
theorem lr_days_I {g : Nat → Int32} (hI : lr_I g) : ∀ k, lr_n g 0 + k ≤ 365 → lr_I (lr_days g k) ∧ lr_n (lr_days g k) 0 = lr_n g 0 + k := by
  intro k
  induction k with
  | zero => intro _; exact ⟨hI, rfl⟩
  | succ k ih =>
    intro h
    obtain ⟨h1, h2⟩ := ih (by omega)
    exact ⟨lr_day_I h1 (by omega), by simp only [lr_days]; rw [lr_day_T h1.1, h2]; omega⟩
theorem c_X10_goesBy2 {g : Nat → Int32} (μ : pm_Mm) (hM : μ.1 48 = g) (hI : lr_I g) : pm_CT mi_X10_goesBy [.ref 47] μ (fun v μ2 => v = some (.int (nI (lr_S g).length)) ∧ lr_fm μ μ2 ∧ μ2.1 48 = lr_day g) pm_NX :=
  c_X10_goesBy μ hM hI.1 hI.2.1 hI.2.2.2.2 (lr_mid_srt hI) (by have := lr_S_len hI; have := lr_ml hI.1; omega)
