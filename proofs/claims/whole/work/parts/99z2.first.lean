/-! the law's beginning, and the whole law -/
theorem gm_perm_law {α : Type} (M R1 O H1 Q1 S T L D K0 K1 K2 K3 K4 K5 K6 K7 : List α) : ((M ++ (R1 ++ (((O ++ (H1 ++ (Q1 ++ (K7 ++ (K6 ++ (K5 ++ (K4 ++ (K3 ++ (K2 ++ (K1 ++ (K0 ++ []))))))))))) ++ S) ++ T))) ++ L ++ D).Perm (Q1 ++ (R1 ++ (O ++ ((T ++ (H1 ++ (M ++ (L ++ D)))) ++ (S ++ (K0 ++ (K1 ++ (K2 ++ (K3 ++ (K4 ++ (K5 ++ (K6 ++ (K7))))))))))))) := by
  classical
  rw [List.perm_iff_count]
  intro x
  simp only [List.count_append, List.count_nil]
  omega
theorem gm_perm_ws {α : Type} (M R1 O H1 Q1 S T L D X : List α) : (Q1 ++ (R1 ++ (O ++ ((T ++ (H1 ++ (M ++ (L ++ D)))) ++ (S ++ X))))).Perm (R1 ++ (O ++ ((T ++ (H1 ++ (Q1 ++ (M ++ (L ++ D))))) ++ (S ++ X)))) := by
  classical
  rw [List.perm_iff_count]
  intro x
  simp only [List.count_append]
  omega
theorem gm_arrV {c : ClassId} {n : Nat} {F G : Nat → Option Nat} (h : ∀ k, k < n → F k = G k) : vp_cell c (n, .inr (.inr (.inr (.inr F)))) = vp_cell c (n, .inr (.inr (.inr (.inr G)))) := by
  show arrV c n (fun j => va_rf (F j)) = arrV c n (fun j => va_rf (G j))
  unfold arrV
  rw [show (fun j : Fin n => va_rf (F j.val)) = fun j => va_rf (G j.val) from funext fun j => by rw [h j.val j.isLt]]
theorem gz_V.arr {Z : State → (Nat → Prop) → Prop} {D : va_G} {tc : Nat → ClassId} {mi : pm_Mi} {P : Option Value → va_W → Prop} {kc ks pc : Nat} {lo : List (Option Value)} {st : List Value} {R : va_W} {q n : Nat} {c : ClassId} {F G : Nat → Option Nat} (h : ∀ k, k < n → F k = G k) (k : gz_V Z D tc mi P kc ks pc lo st ([(q, .inl (c, n, .inr (.inr (.inr (.inr G)))))] ++ R)) : gz_V Z D tc mi P kc ks pc lo st ([(q, .inl (c, n, .inr (.inr (.inr (.inr F)))))] ++ R) := by
  intro p l e s m args below meth c2 A hO hz H locs cells slots ls hc hs hP hD hS hlv
  refine k p l e s m args below meth c2 A hO hz H locs cells slots ls hc hs (fun i x hx => ?_) ?_ hS hlv
  · cases i with
    | zero =>
      cases Option.some.inj hx
      have h9 := hP 0 (q, .inl (c, n, .inr (.inr (.inr (.inr F))))) rfl
      show H[q]? = some (vp_cell c (n, .inr (.inr (.inr (.inr G)))))
      rw [← gm_arrV h]
      exact h9
    | succ i => exact hP (i + 1) x hx
  · rw [gm_D_iff] at hD ⊢
    refine ⟨hD.1, fun x hx => ?_⟩
    rcases List.mem_append.mp hx with h9 | h9
    · cases List.mem_singleton.mp h9
      exact hD.2 (q, .inl (c, n, .inr (.inr (.inr (.inr F))))) (List.mem_append_left _ (List.mem_singleton.mpr rfl))
    · exact hD.2 _ (List.mem_append_right _ h9)
set_option maxHeartbeats 4000000 in
set_option maxRecDepth 100000 in
theorem gm_ws1 (tc : Nat → ClassId) (r hh q ql qd a m m1 m2 m3 m4 m5 m6 m7 : Nat) (fo fs ft : Nat → Nat) (fh : Nat → Nat → Nat) : pm_ws tc (gm_ad r hh q ql qd a fo fs ft (gm_at [m, m1, m2, m3, m4, m5, m6, m7]) fh) gm_m0 = [(r, .inr (9, [.ref (fo 0), .ref hh, .ref (fs 0), .int 0, .ref (ft 0), .int (-1), .int (-1)]))] ++ (gm_cells tc fo (pm_off 0) ++ ((gm_cells tc ft gm_S1 ++ ([(hh, .inr (2, [.int 0, .int 0, .ref q]))] ++ ([(q, .inl (tc 4, 8, .inr (.inr (.inr (.inr (fun k => some ((gm_ad r hh q ql qd a fo fs ft (gm_at [m, m1, m2, m3, m4, m5, m6, m7]) fh) (96 + 39 * k))))))))] ++ ([(m, .inr (10, [.ref m1, .ref m2, .ref m3, .int 0, .ref m4, .int 0, .int 0, .int 0, .ref m5, .int 0, .ref m6, .int 0, .int 0, .int (-1), .ref m7, .int 0])), (m1, .inl (tc 0, 620, .inl (fun _ => 0))), (m2, .inl (tc 0, 620, .inl (fun _ => 0))), (m3, .inl (tc 0, 620, .inl (fun _ => 0))), (m4, .inl (tc 0, 4960, .inl (fun _ => 0))), (m5, .inl (tc 0, 40, .inl (fun _ => 0))), (m6, .inl (tc 0, 40, .inl (fun _ => 0))), (m7, .inl (tc 0, 48, .inl (fun _ => 0)))] ++ ([(ql, .inl (tc 2, 1, .inr (.inl (fun _ => 0))))] ++ [(qd, .inl (tc 3, 1, .inr (.inr (.inr (.inl (fun _ => 0))))))]))))) ++ (gm_cells tc fs (pm_off 0) ++ (gm_cells tc (fh 0) (pm_off 0) ++ (gm_cells tc (fh 1) (pm_off 0) ++ (gm_cells tc (fh 2) (pm_off 0) ++ (gm_cells tc (fh 3) (pm_off 0) ++ (gm_cells tc (fh 4) (pm_off 0) ++ (gm_cells tc (fh 5) (pm_off 0) ++ (gm_cells tc (fh 6) (pm_off 0) ++ (gm_cells tc (fh 7) (pm_off 0)))))))))))) := by
  rw [gm_ws0]
  have h1 : gm_cl tc (gm_ad r hh q ql qd a fo fs ft (gm_at [m, m1, m2, m3, m4, m5, m6, m7]) fh) 1 (pm_off 1) = gm_cells tc fo (pm_off 0) := gm_off_to (fun i hi => by unfold gm_ad; rw [if_neg (by omega), if_pos (by omega)]; congr 1; omega)
  have h2 : gm_cl tc (gm_ad r hh q ql qd a fo fs ft (gm_at [m, m1, m2, m3, m4, m5, m6, m7]) fh) 57 (pm_off 57) = gm_cells tc fs (pm_off 0) := gm_off_to (fun i hi => by unfold gm_ad; rw [if_neg (by omega), if_neg (by omega), if_neg (by omega), if_neg (by omega), if_neg (by omega), if_neg (by omega), if_neg (by omega), if_neg (by omega), if_pos (by omega)]; congr 1; omega)
  have h3 : ∀ k, k < 8 → gm_cl tc (gm_ad r hh q ql qd a fo fs ft (gm_at [m, m1, m2, m3, m4, m5, m6, m7]) fh) (96 + 39 * k) (pm_off (96 + 39 * k)) = gm_cells tc (fh k) (pm_off 0) := fun k hk => gm_off_to (fun i hi => by unfold gm_ad; rw [if_neg (by omega), if_neg (by omega), if_neg (by omega), if_neg (by omega), if_neg (by omega), if_neg (by omega), if_neg (by omega), if_neg (by omega), if_neg (by omega), if_pos (by omega), show (96 + 39 * k + i - 96) / 39 = k by omega, show (96 + 39 * k + i - 96) % 39 = i by omega])
  have h4 : gm_cm tc (gm_ad r hh q ql qd a fo fs ft (gm_at [m, m1, m2, m3, m4, m5, m6, m7]) fh) gm_m0 40 [.inr (1, [none, none, some 41, some 42, some 43, some 44, none]), .inl (0, 40), .inl (0, 40), .inl (0, 40), .inl (1, 40), .inr (2, [none, none, some 46]), .inl (4, 8), .inr (10, [some 48, some 49, some 50, none, some 51, none, none, none, some 52, none, some 53, none, none, none, some 54, none]), .inl (0, 620), .inl (0, 620), .inl (0, 620), .inl (0, 4960), .inl (0, 40), .inl (0, 40), .inl (0, 48), .inl (2, 1), .inl (3, 1)] = gm_cells tc ft gm_S1 ++ ([(hh, .inr (2, [.int 0, .int 0, .ref q]))] ++ ([(q, .inl (tc 4, 8, .inr (.inr (.inr (.inr (fun k => some ((gm_ad r hh q ql qd a fo fs ft (gm_at [m, m1, m2, m3, m4, m5, m6, m7]) fh) (96 + 39 * k))))))))] ++ ([(m, .inr (10, [.ref m1, .ref m2, .ref m3, .int 0, .ref m4, .int 0, .int 0, .int 0, .ref m5, .int 0, .ref m6, .int 0, .int 0, .int (-1), .ref m7, .int 0])), (m1, .inl (tc 0, 620, .inl (fun _ => 0))), (m2, .inl (tc 0, 620, .inl (fun _ => 0))), (m3, .inl (tc 0, 620, .inl (fun _ => 0))), (m4, .inl (tc 0, 4960, .inl (fun _ => 0))), (m5, .inl (tc 0, 40, .inl (fun _ => 0))), (m6, .inl (tc 0, 40, .inl (fun _ => 0))), (m7, .inl (tc 0, 48, .inl (fun _ => 0)))] ++ ([(ql, .inl (tc 2, 1, .inr (.inl (fun _ => 0))))] ++ [(qd, .inl (tc 3, 1, .inr (.inr (.inr (.inl (fun _ => 0))))))])))) := rfl
  rw [h1, h2, h4, show gm_cl tc (gm_ad r hh q ql qd a fo fs ft (gm_at [m, m1, m2, m3, m4, m5, m6, m7]) fh) 96 (pm_off 96) = _ from h3 0 (by decide), show gm_cl tc (gm_ad r hh q ql qd a fo fs ft (gm_at [m, m1, m2, m3, m4, m5, m6, m7]) fh) 135 (pm_off 135) = _ from h3 1 (by decide), show gm_cl tc (gm_ad r hh q ql qd a fo fs ft (gm_at [m, m1, m2, m3, m4, m5, m6, m7]) fh) 174 (pm_off 174) = _ from h3 2 (by decide), show gm_cl tc (gm_ad r hh q ql qd a fo fs ft (gm_at [m, m1, m2, m3, m4, m5, m6, m7]) fh) 213 (pm_off 213) = _ from h3 3 (by decide), show gm_cl tc (gm_ad r hh q ql qd a fo fs ft (gm_at [m, m1, m2, m3, m4, m5, m6, m7]) fh) 252 (pm_off 252) = _ from h3 4 (by decide), show gm_cl tc (gm_ad r hh q ql qd a fo fs ft (gm_at [m, m1, m2, m3, m4, m5, m6, m7]) fh) 291 (pm_off 291) = _ from h3 5 (by decide), show gm_cl tc (gm_ad r hh q ql qd a fo fs ft (gm_at [m, m1, m2, m3, m4, m5, m6, m7]) fh) 330 (pm_off 330) = _ from h3 6 (by decide), show gm_cl tc (gm_ad r hh q ql qd a fo fs ft (gm_at [m, m1, m2, m3, m4, m5, m6, m7]) fh) 369 (pm_off 369) = _ from h3 7 (by decide)]
  rfl
