/-! the constructor of the class -/
/-- what the class's constructor leaves -/
def gm_RP (tc : Nat → ClassId) (h : Nat) : Option Value → va_W → Prop := fun v u => v = none ∧ ∃ (fo : Nat → Nat) (hh q : Nat) (fh : Nat → Nat → Nat) (F : Nat → Option Nat) (fs ft : Nat → Nat), (∀ k, k < 8 → F k = some (fh k 0)) ∧ u = (h, .inr (9, [.ref (fo 0), .ref hh, .ref (fs 0), .int 0, .ref (ft 0), .int (-1), .int (-1)])) :: (((gm_cells tc fo (pm_off 0) ++ ((hh, .inr (2, [.int 0, .int 0, .ref q])) :: (q, .inl (tc 4, 8, .inr (.inr (.inr (.inr F))))) :: gm_offs tc fh 8)) ++ gm_cells tc fs (pm_off 0)) ++ gm_cells tc ft gm_S1)
abbrev mi_X9_init : pm_Mi := (9, yX9_init, cX9_init, 1, none, { frames := 4, cells := 397, slots := 7358, locals := 82 }, [])
theorem cal_X9_init : pm_Cal mi_X9_init 0 := ⟨pm_tab (i := 38) (by decide +kernel) rfl, pm_tab (i := 1) (by decide +kernel) rfl, rfl, by decide +kernel, by decide +kernel, by decide +kernel⟩
theorem im_X9_init : Cond.instanceMethod (pm_y mi_X9_init) ∈ pm_good := pm_tab (i := 37) (by decide +kernel) rfl
set_option maxHeartbeats 4000000 in
set_option maxRecDepth 100000 in
theorem c_X9_init (D : va_G) (tc : Nat → ClassId) (h : Nat) : gm_CT D tc mi_X9_init [.ref h] [(h, .inr (9, [.null, .null, .null, .int 0, .null, .int 0, .int 0]))] (gm_RP tc h) := by
  refine gm_CT_of (lo := [some (.ref h)]) (by decide +kernel) rfl rfl (by intro v hv; simp at hv; rcases hv with rfl <;> rfl) (Nat.le_of_ble_eq_true rfl) rfl ?_
  refine gm_aload_n (j := 0) (by decide +kernel) rfl rfl ?_
  refine gm_objInit (ix := 1) (pm_tab (i := 39) (by decide +kernel) rfl) (by decide) (by decide) (by decide +kernel) ?_
  refine gm_aload_n (j := 0) (by decide +kernel) rfl rfl ?_
  refine gm_new (ix := 7) (ci := 5) (N := 8) (C := RX5) (T := TX5) (fs := [.null, .null, .null, .null, .null, .null, .int 0, .null]) tyX5 pm_cf5 rfl tyX5_ok (pm_tab (i := 42) (by decide +kernel) rfl) (pm_tab (i := 43) (by decide +kernel) rfl) (pm_tab (i := 2) (by decide +kernel) rfl) (fun j hj => by rcases (show j = 0 ∨ j = 1 ∨ j = 2 ∨ j = 3 ∨ j = 4 ∨ j = 5 ∨ j = 6 ∨ j = 7 by omega) with rfl | rfl | rfl | rfl | rfl | rfl | rfl | rfl <;> rfl) (by decide) (by decide) (by decide +kernel) (fun q4 => ?_)
  refine gm_V.perm List.perm_append_comm ?_
  refine gm_dup rfl (by decide +kernel) ?_
  refine gm_callIN (host := RX9) (ix := 9) mi_X5_init (b := q4) (n := 0) (As := []) (rest := [.ref q4, .ref h]) (wc := [(q4, .inr (5, [.null, .null, .null, .null, .null, .null, .int 0, .null]))]) (wr := (h, .inr (9, [.null, .null, .null, .int 0, .null, .int 0, .int 0])) :: []) (kc2 := 39) (ks2 := 718) (c_X5_init D tc q4) rfl cal_X5_init im_X5_init rfl rfl (by decide +kernel) (by decide) (by decide +kernel) rfl rfl (Nat.le_of_ble_eq_true rfl) (by decide) (by decide) ?_
  rintro _ _ ⟨rfl, fo, efo, rfl⟩
  subst efo
  refine gm_V.perm List.perm_append_comm ?_
  show gm_V D tc mi_X9_init _ 39 718 12 [some (.ref h)] [.ref (fo 0), .ref h] ((h, .inr (9, [.null, .null, .null, .int 0, .null, .int 0, .int 0])) :: gm_cells tc fo (pm_off 0))
  refine gm_putF (ix := 10) (ci := 9) (N := 7) (C := RX9) (T := TX9) (ty := .object "LetterRouter$Office") 0 0 pm_cf9 rfl rfl (by decide) (pm_tab (i := 316) (by decide +kernel) rfl) rfl rfl rfl (by decide +kernel) rfl rfl (Nat.le_of_ble_eq_true rfl) (by decide +kernel) ?_
  show gm_V D tc mi_X9_init _ 39 718 15 [some (.ref h)] [] ((h, .inr (9, [.ref (fo 0), .null, .null, .int 0, .null, .int 0, .int 0])) :: gm_cells tc fo (pm_off 0))
  refine gm_aload_n (j := 0) (by decide +kernel) rfl rfl ?_
  refine gm_new (ix := 16) (ci := 2) (N := 3) (C := RX2) (T := TX2) (fs := [.int 0, .int 0, .null]) tyX2 pm_cf2 rfl tyX2_ok (pm_tab (i := 262) (by decide +kernel) rfl) (pm_tab (i := 263) (by decide +kernel) rfl) (pm_tab (i := 9) (by decide +kernel) rfl) (fun j hj => by rcases (show j = 0 ∨ j = 1 ∨ j = 2 by omega) with rfl | rfl | rfl <;> rfl) (by decide) (by decide) (by decide +kernel) (fun q15 => ?_)
  refine gm_V.perm List.perm_append_comm ?_
  refine gm_dup rfl (by decide +kernel) ?_
  refine gm_callI (ix := 18) mi_X2_init (b := q15) (n := 0) (As := []) (rest := [.ref q15, .ref h]) (wc := [(q15, .inr (2, [.int 0, .int 0, .null]))]) (wr := (h, .inr (9, [.ref (fo 0), .null, .null, .int 0, .null, .int 0, .int 0])) :: gm_cells tc fo (pm_off 0)) (kc2 := 353) (ks2 := 6473) (c_X2_init D tc q15) rfl cal_X2_init im_X2_init rfl rfl (pm_tab (i := 264) (by decide +kernel) rfl) (by decide) (by decide +kernel) rfl rfl (Nat.le_of_ble_eq_true rfl) (by decide) (by decide) ?_
  rintro _ _ ⟨rfl, q, fh, F, hF, rfl⟩
  refine gm_V.perm List.perm_append_comm ?_
  show gm_V D tc mi_X9_init _ 353 6473 23 [some (.ref h)] [.ref q15, .ref h] ((h, .inr (9, [.ref (fo 0), .null, .null, .int 0, .null, .int 0, .int 0])) :: (gm_cells tc fo (pm_off 0) ++ ((q15, .inr (2, [.int 0, .int 0, .ref q])) :: (q, .inl (tc 4, 8, .inr (.inr (.inr (.inr F))))) :: gm_offs tc fh 8)))
  refine gm_putF (ix := 19) (ci := 9) (N := 7) (C := RX9) (T := TX9) (ty := .object "LetterRouter$History") 0 1 pm_cf9 rfl rfl (by decide) (pm_tab (i := 317) (by decide +kernel) rfl) rfl rfl rfl (by decide +kernel) rfl rfl (Nat.le_of_ble_eq_true rfl) (by decide +kernel) ?_
  show gm_V D tc mi_X9_init _ 353 6473 26 [some (.ref h)] [] ((h, .inr (9, [.ref (fo 0), .ref q15, .null, .int 0, .null, .int 0, .int 0])) :: (gm_cells tc fo (pm_off 0) ++ ((q15, .inr (2, [.int 0, .int 0, .ref q])) :: (q, .inl (tc 4, 8, .inr (.inr (.inr (.inr F))))) :: gm_offs tc fh 8)))
  refine gm_aload_n (j := 0) (by decide +kernel) rfl rfl ?_
  refine gm_new (ix := 7) (ci := 5) (N := 8) (C := RX5) (T := TX5) (fs := [.null, .null, .null, .null, .null, .null, .int 0, .null]) tyX5 pm_cf5 rfl tyX5_ok (pm_tab (i := 42) (by decide +kernel) rfl) (pm_tab (i := 43) (by decide +kernel) rfl) (pm_tab (i := 2) (by decide +kernel) rfl) (fun j hj => by rcases (show j = 0 ∨ j = 1 ∨ j = 2 ∨ j = 3 ∨ j = 4 ∨ j = 5 ∨ j = 6 ∨ j = 7 by omega) with rfl | rfl | rfl | rfl | rfl | rfl | rfl | rfl <;> rfl) (by decide) (by decide) (by decide +kernel) (fun q26 => ?_)
  refine gm_V.perm List.perm_append_comm ?_
  refine gm_dup rfl (by decide +kernel) ?_
  refine gm_callIN (host := RX9) (ix := 9) mi_X5_init (b := q26) (n := 0) (As := []) (rest := [.ref q26, .ref h]) (wc := [(q26, .inr (5, [.null, .null, .null, .null, .null, .null, .int 0, .null]))]) (wr := (h, .inr (9, [.ref (fo 0), .ref q15, .null, .int 0, .null, .int 0, .int 0])) :: (gm_cells tc fo (pm_off 0) ++ ((q15, .inr (2, [.int 0, .int 0, .ref q])) :: (q, .inl (tc 4, 8, .inr (.inr (.inr (.inr F))))) :: gm_offs tc fh 8))) (kc2 := 392) (ks2 := 7191) (c_X5_init D tc q26) rfl cal_X5_init im_X5_init rfl rfl (by decide +kernel) (by decide) (by decide +kernel) rfl rfl (Nat.le_of_ble_eq_true rfl) (by decide) (by decide) ?_
  rintro _ _ ⟨rfl, fs, efs, rfl⟩
  subst efs
  refine gm_V.perm List.perm_append_comm ?_
  show gm_V D tc mi_X9_init _ 392 7191 34 [some (.ref h)] [.ref (fs 0), .ref h] ((h, .inr (9, [.ref (fo 0), .ref q15, .null, .int 0, .null, .int 0, .int 0])) :: ((gm_cells tc fo (pm_off 0) ++ ((q15, .inr (2, [.int 0, .int 0, .ref q])) :: (q, .inl (tc 4, 8, .inr (.inr (.inr (.inr F))))) :: gm_offs tc fh 8)) ++ gm_cells tc fs (pm_off 0)))
  refine gm_putF (ix := 23) (ci := 9) (N := 7) (C := RX9) (T := TX9) (ty := .object "LetterRouter$Office") 0 2 pm_cf9 rfl rfl (by decide) (pm_tab (i := 318) (by decide +kernel) rfl) rfl rfl rfl (by decide +kernel) rfl rfl (Nat.le_of_ble_eq_true rfl) (by decide +kernel) ?_
  show gm_V D tc mi_X9_init _ 392 7191 37 [some (.ref h)] [] ((h, .inr (9, [.ref (fo 0), .ref q15, .ref (fs 0), .int 0, .null, .int 0, .int 0])) :: ((gm_cells tc fo (pm_off 0) ++ ((q15, .inr (2, [.int 0, .int 0, .ref q])) :: (q, .inl (tc 4, 8, .inr (.inr (.inr (.inr F))))) :: gm_offs tc fh 8)) ++ gm_cells tc fs (pm_off 0)))
  refine gm_aload_n (j := 0) (by decide +kernel) rfl rfl ?_
  refine gm_iconst (z := 0) (v := 0) rfl (by decide +kernel) ?_
  refine gm_put (ix := 26) (ci := 9) (N := 7) (C := RX9) (T := TX9) (ty := .boolean) 0 3 pm_cf9 rfl rfl (by decide) (pm_tab (i := 319) (by decide +kernel) rfl) rfl (by decide +kernel) rfl rfl (Nat.le_of_ble_eq_true rfl) (by decide +kernel) ?_
  show gm_V D tc mi_X9_init _ 392 7191 42 [some (.ref h)] [] ((h, .inr (9, [.ref (fo 0), .ref q15, .ref (fs 0), .int 0, .null, .int 0, .int 0])) :: ((gm_cells tc fo (pm_off 0) ++ ((q15, .inr (2, [.int 0, .int 0, .ref q])) :: (q, .inl (tc 4, 8, .inr (.inr (.inr (.inr F))))) :: gm_offs tc fh 8)) ++ gm_cells tc fs (pm_off 0)))
  refine gm_aload_n (j := 0) (by decide +kernel) rfl rfl ?_
  refine gm_new (ix := 30) (ci := 1) (N := 7) (C := RX1) (T := TX1) (fs := [.int 0, .int 0, .null, .null, .null, .null, .int 0]) tyX1 pm_cf1 rfl tyX1_ok (pm_tab (i := 282) (by decide +kernel) rfl) (pm_tab (i := 283) (by decide +kernel) rfl) (pm_tab (i := 10) (by decide +kernel) rfl) (fun j hj => by rcases (show j = 0 ∨ j = 1 ∨ j = 2 ∨ j = 3 ∨ j = 4 ∨ j = 5 ∨ j = 6 by omega) with rfl | rfl | rfl | rfl | rfl | rfl | rfl <;> rfl) (by decide) (by decide) (by decide +kernel) (fun q42 => ?_)
  refine gm_V.perm List.perm_append_comm ?_
  refine gm_dup rfl (by decide +kernel) ?_
  refine gm_callIN (host := RX9) (ix := 32) mi_X1_init (b := q42) (n := 0) (As := []) (rest := [.ref q42, .ref h]) (wc := [(q42, .inr (1, [.int 0, .int 0, .null, .null, .null, .null, .int 0]))]) (wr := (h, .inr (9, [.ref (fo 0), .ref q15, .ref (fs 0), .int 0, .null, .int 0, .int 0])) :: ((gm_cells tc fo (pm_off 0) ++ ((q15, .inr (2, [.int 0, .int 0, .ref q])) :: (q, .inl (tc 4, 8, .inr (.inr (.inr (.inr F))))) :: gm_offs tc fh 8)) ++ gm_cells tc fs (pm_off 0))) (kc2 := 397) (ks2 := 7358) (p_X1_init D tc q42) rfl cal_X1_init im_X1_init rfl rfl (by decide +kernel) (by decide) (by decide +kernel) rfl rfl (Nat.le_of_ble_eq_true rfl) (by decide) (by decide) ?_
  rintro _ _ ⟨rfl, ft, eft, rfl⟩
  subst eft
  refine gm_V.perm List.perm_append_comm ?_
  show gm_V D tc mi_X9_init _ 397 7358 50 [some (.ref h)] [.ref (ft 0), .ref h] ((h, .inr (9, [.ref (fo 0), .ref q15, .ref (fs 0), .int 0, .null, .int 0, .int 0])) :: (((gm_cells tc fo (pm_off 0) ++ ((q15, .inr (2, [.int 0, .int 0, .ref q])) :: (q, .inl (tc 4, 8, .inr (.inr (.inr (.inr F))))) :: gm_offs tc fh 8)) ++ gm_cells tc fs (pm_off 0)) ++ gm_cells tc ft gm_S1))
  refine gm_putF (ix := 33) (ci := 9) (N := 7) (C := RX9) (T := TX9) (ty := .object "LetterRouter$ArrivalText") 0 4 pm_cf9 rfl rfl (by decide) (pm_tab (i := 320) (by decide +kernel) rfl) rfl rfl rfl (by decide +kernel) rfl rfl (Nat.le_of_ble_eq_true rfl) (by decide +kernel) ?_
  show gm_V D tc mi_X9_init _ 397 7358 53 [some (.ref h)] [] ((h, .inr (9, [.ref (fo 0), .ref q15, .ref (fs 0), .int 0, .ref (ft 0), .int 0, .int 0])) :: (((gm_cells tc fo (pm_off 0) ++ ((q15, .inr (2, [.int 0, .int 0, .ref q])) :: (q, .inl (tc 4, 8, .inr (.inr (.inr (.inr F))))) :: gm_offs tc fh 8)) ++ gm_cells tc fs (pm_off 0)) ++ gm_cells tc ft gm_S1))
  refine gm_aload_n (j := 0) (by decide +kernel) rfl rfl ?_
  refine gm_iconst (z := -1) (v := -1) rfl (by decide +kernel) ?_
  refine gm_put (ix := 37) (ci := 9) (N := 7) (C := RX9) (T := TX9) (ty := .int) 0 5 pm_cf9 rfl rfl (by decide) (pm_tab (i := 321) (by decide +kernel) rfl) rfl (by decide +kernel) rfl rfl (Nat.le_of_ble_eq_true rfl) (by decide +kernel) ?_
  show gm_V D tc mi_X9_init _ 397 7358 58 [some (.ref h)] [] ((h, .inr (9, [.ref (fo 0), .ref q15, .ref (fs 0), .int 0, .ref (ft 0), .int (-1), .int 0])) :: (((gm_cells tc fo (pm_off 0) ++ ((q15, .inr (2, [.int 0, .int 0, .ref q])) :: (q, .inl (tc 4, 8, .inr (.inr (.inr (.inr F))))) :: gm_offs tc fh 8)) ++ gm_cells tc fs (pm_off 0)) ++ gm_cells tc ft gm_S1))
  refine gm_aload_n (j := 0) (by decide +kernel) rfl rfl ?_
  refine gm_iconst (z := -1) (v := -1) rfl (by decide +kernel) ?_
  refine gm_put (ix := 41) (ci := 9) (N := 7) (C := RX9) (T := TX9) (ty := .int) 0 6 pm_cf9 rfl rfl (by decide) (pm_tab (i := 322) (by decide +kernel) rfl) rfl (by decide +kernel) rfl rfl (Nat.le_of_ble_eq_true rfl) (by decide +kernel) ?_
  show gm_V D tc mi_X9_init _ 397 7358 63 [some (.ref h)] [] ((h, .inr (9, [.ref (fo 0), .ref q15, .ref (fs 0), .int 0, .ref (ft 0), .int (-1), .int (-1)])) :: (((gm_cells tc fo (pm_off 0) ++ ((q15, .inr (2, [.int 0, .int 0, .ref q])) :: (q, .inl (tc 4, 8, .inr (.inr (.inr (.inr F))))) :: gm_offs tc fh 8)) ++ gm_cells tc fs (pm_off 0)) ++ gm_cells tc ft gm_S1))
  exact gm_vret rfl (by decide) (by decide) (by decide +kernel) ⟨rfl, fo, q15, q, fh, F, fs, ft, hF, rfl⟩
