/-! the whole law over a written world -/
set_option maxHeartbeats 4000000 in
set_option maxRecDepth 100000 in
theorem gz_law {L : Nat} {xs : Nat → Int32} (hL : L ≤ 3072) (D : va_G) (tc : Nat → ClassId) (a : Nat) : gz_V (fun s A => va_X a L xs s s.heap ∧ a < s.heap.size ∧ ¬ A a) D tc mi_L_law (fun v _ => v = some (.int 1)) 0 0 0 [some (.ref a), none, none, none, none, none, none, none, none] [] [] := by
  refine gz_new (ix := 8) (ci := 9) (N := 7) (C := RX9) (T := TX9) (fs := [.null, .null, .null, .int 0, .null, .int 0, .int 0]) tyX9 pm_cf9 rfl tyX9_ok (pm_tab (i := 34) (by decide +kernel) rfl) (pm_tab (i := 35) (by decide +kernel) rfl) (pm_tab (i := 1) (by decide +kernel) rfl) (fun j hj => by rcases (show j = 0 ∨ j = 1 ∨ j = 2 ∨ j = 3 ∨ j = 4 ∨ j = 5 ∨ j = 6 by omega) with rfl | rfl | rfl | rfl | rfl | rfl | rfl <;> rfl) (by decide) (by decide) (by decide +kernel) (fun r => ?_)
  show gz_V _ D tc mi_L_law _ 1 7 3 [some (.ref a), none, none, none, none, none, none, none, none] [.ref r] [(r, .inr (9, [.null, .null, .null, .int 0, .null, .int 0, .int 0]))]
  refine gz_dup rfl (by decide +kernel) ?_
  refine gz_callI (ix := 125) mi_X9_init (b := r) (n := 0) (As := []) (rest := [.ref r]) (wc := [(r, .inr (9, [.null, .null, .null, .int 0, .null, .int 0, .int 0]))]) (wr := []) (kc2 := 398) (ks2 := 7365) (c_X9_init D tc r) rfl cal_X9_init im_X9_init rfl rfl (pm_tab (i := 36) (by decide +kernel) rfl) (by decide) (by decide +kernel) rfl rfl (Nat.le_of_ble_eq_true rfl) (by decide) (by decide) ?_
  rintro _ _ ⟨rfl, fo, hh, q, fh, F, fs, ft, hF, rfl⟩
  rw [List.append_nil]
  refine gz_astore_n (j := 1) (a := 1) (by decide +kernel) rfl (by decide) rfl (by simp) ?_
  show gz_V _ D tc mi_L_law _ 398 7365 8 [some (.ref a), some (.ref r), none, none, none, none, none, none, none] [] ([(r, .inr (9, [.ref (fo 0), .ref hh, .ref (fs 0), .int 0, .ref (ft 0), .int (-1), .int (-1)]))] ++ (((gm_cells tc fo (pm_off 0) ++ ([(hh, .inr (2, [.int 0, .int 0, .ref q]))] ++ ([(q, .inl (tc 4, 8, .inr (.inr (.inr (.inr F)))))] ++ gm_offs tc fh 8))) ++ gm_cells tc fs (pm_off 0)) ++ gm_cells tc ft gm_S1))
  generalize hRW : (([(r, .inr (9, [.ref (fo 0), .ref hh, .ref (fs 0), .int 0, .ref (ft 0), .int (-1), .int (-1)]))] ++ (((gm_cells tc fo (pm_off 0) ++ ([(hh, .inr (2, [.int 0, .int 0, .ref q]))] ++ ([(q, .inl (tc 4, 8, .inr (.inr (.inr (.inr F)))))] ++ gm_offs tc fh 8))) ++ gm_cells tc fs (pm_off 0)) ++ gm_cells tc ft gm_S1)) : va_W) = RW
  refine gz_new (ix := 126) (ci := 10) (N := 16) (C := RX10) (T := TX10) (fs := [.null, .null, .null, .int 0, .null, .int 0, .int 0, .int 0, .null, .int 0, .null, .int 0, .int 0, .int 0, .null, .int 0]) tyX10 pm_cf10 rfl tyX10_ok (pm_tab (i := 1287) (by decide +kernel) rfl) (pm_tab (i := 1288) (by decide +kernel) rfl) (pm_tab (i := 11) (by decide +kernel) rfl) (fun j hj => by rcases (show j = 0 ∨ j = 1 ∨ j = 2 ∨ j = 3 ∨ j = 4 ∨ j = 5 ∨ j = 6 ∨ j = 7 ∨ j = 8 ∨ j = 9 ∨ j = 10 ∨ j = 11 ∨ j = 12 ∨ j = 13 ∨ j = 14 ∨ j = 15 by omega) with rfl | rfl | rfl | rfl | rfl | rfl | rfl | rfl | rfl | rfl | rfl | rfl | rfl | rfl | rfl | rfl <;> rfl) (by decide) (by decide) (by decide +kernel) (fun m => ?_)
  refine gz_V.perm List.perm_append_comm ?_
  show gz_V _ D tc mi_L_law _ 399 7381 11 [some (.ref a), some (.ref r), none, none, none, none, none, none, none] [.ref m] ([(m, .inr (10, [.null, .null, .null, .int 0, .null, .int 0, .int 0, .int 0, .null, .int 0, .null, .int 0, .int 0, .int 0, .null, .int 0]))] ++ RW)
  refine gz_dup rfl (by decide +kernel) ?_
  refine gz_callI (ix := 128) mi_X10_init (b := m) (n := 0) (As := []) (rest := [.ref m]) (wc := [(m, .inr (10, [.null, .null, .null, .int 0, .null, .int 0, .int 0, .int 0, .null, .int 0, .null, .int 0, .int 0, .int 0, .null, .int 0]))]) (wr := RW) (kc2 := 406) (ks2 := 14329) (c_X10_init D tc m) rfl cal_X10_init im_X10_init rfl rfl (pm_tab (i := 1289) (by decide +kernel) rfl) (by decide) (by decide +kernel) rfl rfl (Nat.le_of_ble_eq_true rfl) (by decide) (by decide) ?_
  rintro _ _ ⟨rfl, m1, m2, m3, m4, m5, m6, m7, rfl⟩
  refine gz_astore_n (j := 2) (a := 2) (by decide +kernel) rfl (by decide) rfl (by simp) ?_
  generalize hMW : ([(m, .inr (10, [.ref m1, .ref m2, .ref m3, .int 0, .ref m4, .int 0, .int 0, .int 0, .ref m5, .int 0, .ref m6, .int 0, .int 0, .int (-1), .ref m7, .int 0])), (m1, .inl (tc 0, 620, .inl (fun _ => 0))), (m2, .inl (tc 0, 620, .inl (fun _ => 0))), (m3, .inl (tc 0, 620, .inl (fun _ => 0))), (m4, .inl (tc 0, 4960, .inl (fun _ => 0))), (m5, .inl (tc 0, 40, .inl (fun _ => 0))), (m6, .inl (tc 0, 40, .inl (fun _ => 0))), (m7, .inl (tc 0, 48, .inl (fun _ => 0)))] : va_W) = MW
  show gz_V _ D tc mi_L_law _ 406 14329 16 [some (.ref a), some (.ref r), some (.ref m), none, none, none, none, none, none] [] (MW ++ RW)
  refine gz_iconst (z := 1) (v := 1) rfl (by decide +kernel) ?_
  refine gz_newa_long (N := 1) (by decide) (by decide) (by decide) (by decide) (by decide) (by decide +kernel) (fun ql => ?_)
  refine gz_astore_n (j := 3) (a := 3) (by decide +kernel) rfl (by decide) rfl (by simp) ?_
  show gz_V _ D tc mi_L_law _ 407 14330 20 [some (.ref a), some (.ref r), some (.ref m), some (.ref ql), none, none, none, none, none] [] ((MW ++ RW) ++ [(ql, .inl (tc 2, 1, .inr (.inl (fun _ => 0))))])
  refine gz_iconst (z := 1) (v := 1) rfl (by decide +kernel) ?_
  refine gz_newa_double (N := 1) (by decide) (by decide) (by decide) (by decide) (by decide) (by decide +kernel) (fun qd => ?_)
  refine gz_astore (a := 4) (by decide +kernel) (by decide) rfl (by simp) ?_
  refine gz_iconst (z := 0) (v := 0) rfl (by decide +kernel) ?_
  refine gz_istore (a := 5) (by decide +kernel) (by decide) rfl (by simp) ?_
  show gz_V _ D tc mi_L_law _ 408 14331 28 [some (.ref a), some (.ref r), some (.ref m), some (.ref ql), some (.ref qd), some (.int 0), none, none, none] [] (((MW ++ RW) ++ [(ql, .inl (tc 2, 1, .inr (.inl (fun _ => 0))))]) ++ [(qd, .inl (tc 3, 1, .inr (.inr (.inr (.inl (fun _ => 0))))))])
  subst hRW
  rw [show gm_offs tc fh 8 = gm_cells tc (fh 7) (pm_off 0) ++ (gm_cells tc (fh 6) (pm_off 0) ++ (gm_cells tc (fh 5) (pm_off 0) ++ (gm_cells tc (fh 4) (pm_off 0) ++ (gm_cells tc (fh 3) (pm_off 0) ++ (gm_cells tc (fh 2) (pm_off 0) ++ (gm_cells tc (fh 1) (pm_off 0) ++ (gm_cells tc (fh 0) (pm_off 0) ++ []))))))) from rfl]
  refine gz_V.perm (gm_perm_law MW [(r, .inr (9, [.ref (fo 0), .ref hh, .ref (fs 0), .int 0, .ref (ft 0), .int (-1), .int (-1)]))] (gm_cells tc fo (pm_off 0)) [(hh, .inr (2, [.int 0, .int 0, .ref q]))] [(q, .inl (tc 4, 8, .inr (.inr (.inr (.inr F)))))] (gm_cells tc fs (pm_off 0)) (gm_cells tc ft gm_S1) [(ql, .inl (tc 2, 1, .inr (.inl (fun _ => 0))))] [(qd, .inl (tc 3, 1, .inr (.inr (.inr (.inl (fun _ => 0))))))] (gm_cells tc (fh 0) (pm_off 0)) (gm_cells tc (fh 1) (pm_off 0)) (gm_cells tc (fh 2) (pm_off 0)) (gm_cells tc (fh 3) (pm_off 0)) (gm_cells tc (fh 4) (pm_off 0)) (gm_cells tc (fh 5) (pm_off 0)) (gm_cells tc (fh 6) (pm_off 0)) (gm_cells tc (fh 7) (pm_off 0))) ?_
  refine gz_V.arr (G := fun k => some ((gm_ad r hh q ql qd a fo fs ft (gm_at [m, m1, m2, m3, m4, m5, m6, m7]) fh) (96 + 39 * k))) (fun k hk => ?_) ?_
  · rw [hF k hk]; unfold gm_ad; rw [if_neg (by omega), if_neg (by omega), if_neg (by omega), if_neg (by omega), if_neg (by omega), if_neg (by omega), if_neg (by omega), if_neg (by omega), if_neg (by omega), if_pos (by omega), show (96 + 39 * k - 96) / 39 = k by omega, show (96 + 39 * k - 96) % 39 = 0 by omega]
  subst hMW
  refine gz_pm (ad := (gm_ad r hh q ql qd a fo fs ft (gm_at [m, m1, m2, m3, m4, m5, m6, m7]) fh)) (T1 := fun v _ => v = some (.int 1)) (Zp := lr_Z L xs) (μ := gm_m0) (lo2 := [some (.ref 1000), some (.ref 0), some (.ref 47), some (.ref 55), some (.ref 56), some (.int (nI 0)), none, none, none]) (st2 := []) ?_ ?_ rfl rfl ?_ ?_
  · rintro s A ⟨z1, z2, z3⟩; exact ⟨z1, z2, z3⟩
  · rintro _ M rfl; rfl
  · rw [gm_ws1]
    exact gm_perm_ws _ _ _ _ _ _ _ _ _ _
  · exact la_loop hL (fun M => rfl) 512 (by omega) (by decide) (by decide) (by decide) gm_m0 gm_m0_V
