/-! both sides say the same: stops, houses not served -/
theorem lr_hso_eq {g : Nat → Int32} {u : Nat} (hu : u < 2 ^ 31) (x : Int32) : lr_hso g (nI u) x = lr_hs g (nI u) x := by
  unfold lr_hso lr_hs
  congr 1
  funext i
  by_cases h : lr_sv g i = nI u
  · rw [lr_spo, if_neg (by rw [h]; exact lr_ne1 hu)]
  · rw [decide_eq_false h]; rfl
theorem lr_nsv_eq (g : Nat → Int32) (hw : lr_n g 116 < 2 ^ 31) : lr_sum (fun h => lr_b (decide (lr_sv g h < 0))) (lr_n g 2) = lr_svd g (-1) := by
  unfold lr_svd
  congr 1
  funext h
  rcases lr_sv_ok g h with e | ⟨v, e, hv⟩
  · rw [e]; decide
  · rw [e, decide_eq_false (nI_pos (by omega)), decide_eq_false (lr_ne1 (by omega))]
