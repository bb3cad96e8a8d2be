/-! the constructor of the history: its eight offices -/
/-- the cells of the offices 0 .. n - 1 at the places that fs says -/
def gm_offs (tc : Nat → ClassId) (fs : Nat → Nat → Nat) : Nat → va_W
  | 0 => []
  | n + 1 => gm_cells tc (fs n) (pm_off 0) ++ gm_offs tc fs n
theorem gm_offs_congr {tc : Nat → ClassId} {fs gs : Nat → Nat → Nat} : ∀ n, (∀ k, k < n → fs k = gs k) → gm_offs tc fs n = gm_offs tc gs n
  | 0, _ => rfl
  | n + 1, h => by
    show gm_cells tc (fs n) (pm_off 0) ++ gm_offs tc fs n = gm_cells tc (gs n) (pm_off 0) ++ gm_offs tc gs n
    rw [h n (Nat.lt_succ_self n), gm_offs_congr n (fun k hk => h k (Nat.lt_succ_of_lt hk))]
theorem gm_offs_succ {tc : Nat → ClassId} {fs : Nat → Nat → Nat} {f : Nat → Nat} {i : Nat} : gm_cells tc f (pm_off 0) ++ gm_offs tc fs i = gm_offs tc (fun k => if k = i then f else fs k) (i + 1) := by
  show _ = gm_cells tc (if i = i then f else fs i) (pm_off 0) ++ gm_offs tc (fun k => if k = i then f else fs k) i
  rw [if_pos rfl, gm_offs_congr (gs := fs) i (fun k hk => if_neg (by omega))]
/-- what the history's constructor leaves -/
def gm_HP (tc : Nat → ClassId) (h : Nat) : Option Value → va_W → Prop := fun v u => v = none ∧ ∃ (q : Nat) (fs : Nat → Nat → Nat) (F : Nat → Option Nat), (∀ k, k < 8 → F k = some (fs k 0)) ∧ u = (h, .inr (2, [.int 0, .int 0, .ref q])) :: (q, .inl (tc 4, 8, .inr (.inr (.inr (.inr F))))) :: gm_offs tc fs 8
abbrev mi_X2_init : pm_Mi := (2, yX2_init, cX2_init, 2, none, { frames := 3, cells := 313, slots := 5752, locals := 61 }, [])
theorem cal_X2_init : pm_Cal mi_X2_init 0 := ⟨pm_tab (i := 266) (by decide +kernel) rfl, pm_tab (i := 9) (by decide +kernel) rfl, rfl, by decide +kernel, by decide +kernel, by decide +kernel⟩
theorem im_X2_init : Cond.instanceMethod (pm_y mi_X2_init) ∈ pm_good := pm_tab (i := 265) (by decide +kernel) rfl
set_option maxHeartbeats 4000000 in
set_option maxRecDepth 100000 in
theorem gm_hist_loop (D : va_G) (tc : Nat → ClassId) (h q : Nat) : ∀ (m i : Nat) (fs : Nat → Nat → Nat) (F : Nat → Option Nat) {kc ks : Nat}, i + m = 8 → kc + 39 * m ≤ 313 → ks + 718 * m ≤ 5752 → (∀ k, k < i → F k = some (fs k 0)) → gm_V D tc mi_X2_init (gm_HP tc h) kc ks 25 [some (.ref h), some (.int (nI i))] [] ((h, .inr (2, [.int 0, .int 0, .ref q])) :: (q, .inl (tc 4, 8, .inr (.inr (.inr (.inr F))))) :: gm_offs tc fs i) := by
  intro m
  induction m with
  | zero =>
    intro i fs F kc ks hi h1 h2 hF
    obtain rfl : i = 8 := by omega
    refine gm_iload_n (j := 1) (by decide +kernel) rfl rfl ?_
    refine gm_bipush (z := 8) (v := 8) rfl (by decide +kernel) ?_
    refine gm_icmp_ge (off := 22) 50 (by decide +kernel) (by decide) (fun _ => ?_) (fun h9 => absurd (show (8 : Int32) ≤ nI 8 by decide) h9)
    exact gm_vret rfl (Nat.le_trans (by omega : kc ≤ 313) (by decide)) (Nat.le_trans (by omega : ks ≤ 5752) (by decide)) (by decide +kernel) ⟨rfl, q, fs, F, hF, rfl⟩
  | succ m ih =>
    intro i fs F kc ks hi h1 h2 hF
    refine gm_iload_n (j := 1) (by decide +kernel) rfl rfl ?_
    refine gm_bipush (z := 8) (v := 8) rfl (by decide +kernel) ?_
    refine gm_icmp_ge (off := 22) 50 (by decide +kernel) (by decide) (fun h9 => absurd ((nI_leI (a := 8) (b := i) (by decide) (by omega)).mp h9) (by omega)) (fun _ => ?_)
    refine gm_aload_n (j := 0) (by decide +kernel) rfl rfl ?_
    refine gm_get (ix := 20) (ci := 2) (N := 3) (C := RX2) (T := TX2) (v := .ref q) 0 2 pm_cf2 rfl rfl (by decide) (pm_tab (i := 274) (by decide +kernel) rfl) rfl (by decide +kernel) ?_
    refine gm_iload_n (j := 1) (by decide +kernel) rfl rfl ?_
    refine gm_new (ix := 18) (ci := 5) (N := 8) (C := RX5) (T := TX5) (fs := [.null, .null, .null, .null, .null, .null, .int 0, .null]) tyX5 pm_cf5 rfl tyX5_ok (pm_tab (i := 268) (by decide +kernel) rfl) (pm_tab (i := 43) (by decide +kernel) rfl) (pm_tab (i := 2) (by decide +kernel) rfl) (fun j hj => by rcases (show j = 0 ∨ j = 1 ∨ j = 2 ∨ j = 3 ∨ j = 4 ∨ j = 5 ∨ j = 6 ∨ j = 7 by omega) with rfl | rfl | rfl | rfl | rfl | rfl | rfl | rfl <;> rfl) (Nat.le_trans (by omega : kc + 1 ≤ 313) (by decide)) (Nat.le_trans (by omega : ks + 8 ≤ 5752) (by decide)) (by decide +kernel) (fun q5 => ?_)
    refine gm_V.perm List.perm_append_comm ?_
    refine gm_dup rfl (by decide +kernel) ?_
    refine gm_callIN (ix := 24) (host := RX9) mi_X5_init (b := q5) (n := 0) (As := []) (rest := [.ref q5, .int (nI i), .ref q]) (wc := [(q5, .inr (5, [.null, .null, .null, .null, .null, .null, .int 0, .null]))]) (wr := (h, .inr (2, [.int 0, .int 0, .ref q])) :: (q, .inl (tc 4, 8, .inr (.inr (.inr (.inr F))))) :: gm_offs tc fs i) (kc2 := kc + 39) (ks2 := ks + 718) (c_X5_init D tc q5) rfl cal_X5_init im_X5_init rfl rfl (by decide +kernel) ?fit (by decide +kernel) rfl rfl (Nat.le_of_ble_eq_true rfl) (Nat.le_of_eq (show kc + 1 + 38 = kc + 39 from rfl)) (Nat.le_of_eq (show ks + 8 + 710 = ks + 718 from rfl)) ?_
    case fit =>
      simp only [pm_fit, Bool.and_eq_true, decide_eq_true_eq]
      exact ⟨by decide, by decide, Nat.le_trans (by omega : kc + 39 ≤ 313) (by decide), Nat.le_trans (by omega : ks + 718 ≤ 5752) (by decide)⟩
    rintro _ _ ⟨rfl, f, e0, rfl⟩
    subst e0
    refine gm_V.perm (List.perm_append_comm_assoc (gm_cells tc f (pm_off 0)) [(h, .inr (2, [.int 0, .int 0, .ref q])), (q, .inl (tc 4, 8, .inr (.inr (.inr (.inr F)))))] (gm_offs tc fs i)) ?_
    show gm_V D tc mi_X2_init _ (kc + 39) (ks + 718) 43 [some (.ref h), some (.int (nI i))] [.ref (f 0), .int (nI i), .ref q] ((h, .inr (2, [.int 0, .int 0, .ref q])) :: (q, .inl (tc 4, 8, .inr (.inr (.inr (.inr F))))) :: (gm_cells tc f (pm_off 0) ++ gm_offs tc fs i))
    refine gm_astq (u := f 0) (ci := 5) (vs := [.ref (f 1), .ref (f 4), .ref (f 9), .ref (f 15), .ref (f 21), .ref (f 25), .int 0, .ref (f 38)]) (T := TX5) (N := 8) 1 2 rfl rfl rfl (vp_in_nI (by omega) (by omega)) (by decide +kernel) ?_
    rw [nI_clamp (by omega), gm_offs_succ]
    refine gm_iinc (a := 1) (z := 1) (v := 1) (by decide +kernel) (by decide) rfl (by decide) rfl (by simp) ?_
    rw [show nI i + (1 : Int32) = nI (i + 1) from (Int32.ofNat_add i 1).symm]
    refine gm_goto (off := -22) (tgt := 25) (by decide +kernel) (by decide) ?_
    refine ih (i + 1) (fun k => if k = i then f else fs k) (va_up F i (some (f 0))) (by omega) (by omega) (by omega) (fun k hk => ?_)
    by_cases hki : k = i
    · subst hki
      rw [va_up_self, if_pos rfl]
    · rw [va_up_ne _ _ hki, if_neg hki]
      exact hF k (by omega)
set_option maxHeartbeats 4000000 in
set_option maxRecDepth 100000 in
theorem c_X2_init (D : va_G) (tc : Nat → ClassId) (h : Nat) : gm_CT D tc mi_X2_init [.ref h] [(h, .inr (2, [.int 0, .int 0, .null]))] (gm_HP tc h) := by
  refine gm_CT_of (lo := [some (.ref h), none]) (by decide +kernel) rfl rfl (by intro v hv; simp at hv; rcases hv with rfl <;> rfl) (Nat.le_of_ble_eq_true rfl) rfl ?_
  refine gm_aload_n (j := 0) (by decide +kernel) rfl rfl ?_
  refine gm_objInit (ix := 3) (pm_tab (i := 267) (by decide +kernel) rfl) (by decide) (by decide) (by decide +kernel) ?_
  refine gm_aload_n (j := 0) (by decide +kernel) rfl rfl ?_
  refine gm_iconst (z := 0) (v := 0) rfl (by decide +kernel) ?_
  refine gm_put (ix := 9) (ci := 2) (N := 3) (C := RX2) (T := TX2) (ty := .int) 0 0 pm_cf2 rfl rfl (by decide) (pm_tab (i := 271) (by decide +kernel) rfl) rfl (by decide +kernel) rfl rfl (Nat.le_of_ble_eq_true rfl) (by decide +kernel) ?_
  show gm_V D tc mi_X2_init _ 0 0 9 [some (.ref h), none] [] [(h, .inr (2, [.int 0, .int 0, .null]))]
  refine gm_aload_n (j := 0) (by decide +kernel) rfl rfl ?_
  refine gm_iconst (z := 0) (v := 0) rfl (by decide +kernel) ?_
  refine gm_put (ix := 15) (ci := 2) (N := 3) (C := RX2) (T := TX2) (ty := .int) 0 1 pm_cf2 rfl rfl (by decide) (pm_tab (i := 273) (by decide +kernel) rfl) rfl (by decide +kernel) rfl rfl (Nat.le_of_ble_eq_true rfl) (by decide +kernel) ?_
  show gm_V D tc mi_X2_init _ 0 0 14 [some (.ref h), none] [] [(h, .inr (2, [.int 0, .int 0, .null]))]
  refine gm_aload_n (j := 0) (by decide +kernel) rfl rfl ?_
  refine gm_bipush (z := 8) (v := 8) rfl (by decide +kernel) ?_
  refine gm_newq (ix := 18) (N := 8) (pm_tab (i := 268) (by decide +kernel) rfl) (by decide) (by decide) (by decide) (by decide) (by decide) (by decide +kernel) (fun q => ?_)
  show gm_V D tc mi_X2_init _ 1 8 20 [some (.ref h), none] [.ref q, .ref h] [(h, .inr (2, [.int 0, .int 0, .null])), (q, .inl (tc 4, 8, .inr (.inr (.inr (.inr (fun _ => none))))))]
  refine gm_putF (ix := 20) (ci := 2) (N := 3) (C := RX2) (T := TX2) (ty := .array (.object "LetterRouter$Office")) 0 2 pm_cf2 rfl rfl (by decide) (pm_tab (i := 274) (by decide +kernel) rfl) rfl rfl rfl (by decide +kernel) rfl rfl (Nat.le_of_ble_eq_true rfl) (by decide +kernel) ?_
  show gm_V D tc mi_X2_init _ 1 8 23 [some (.ref h), none] [] [(h, .inr (2, [.int 0, .int 0, .ref q])), (q, .inl (tc 4, 8, .inr (.inr (.inr (.inr (fun _ => none))))))]
  refine gm_iconst (z := 0) (v := 0) rfl (by decide +kernel) ?_
  refine gm_istore_n (j := 1) (a := 1) (by decide +kernel) rfl (by decide) rfl (by simp) ?_
  exact gm_hist_loop D tc h q 8 0 (fun _ _ => 0) (fun _ => none) (by decide) (by decide) (by decide) (fun k hk => absurd hk (Nat.not_lt_zero k))
