theorem gm_CT.imp {D : va_G} {tc : Nat → ClassId} {mi : pm_Mi} {av : List Value} {ws : va_W} {P P2 : Option Value → va_W → Prop} (h : gm_CT D tc mi av ws P) (hP : ∀ v u, P v u → P2 v u) : gm_CT D tc mi av ws P2 := by
  intro l sz htr
  have h1 := h l sz htr
  unfold Met at h1 ⊢
  intro p e ha hcl hk s m args below hf hap hp hK
  obtain ⟨k, o, h2, h3, h4, ⟨⟨v, u, e1, e2, e3⟩, e4⟩, h6⟩ := h1 p e ha hcl hk s m args below hf hap hp hK
  exact ⟨k, o, h2, h3, h4, ⟨⟨v, u, e1, hP v u e2, e3⟩, e4⟩, h6⟩
/-! the constructors of the class's rows, and of an office -/
abbrev mi_X3_init : pm_Mi := (3, yX3_init, cX3_init, 1, none, { frames := 1, cells := 2, slots := 32, locals := 21 }, [])
theorem cal_X3_init : pm_Cal mi_X3_init 0 := ⟨pm_tab (i := 52) (by decide +kernel) rfl, pm_tab (i := 3) (by decide +kernel) rfl, rfl, by decide +kernel, by decide +kernel, by decide +kernel⟩
theorem im_X3_init : Cond.instanceMethod (pm_y mi_X3_init) ∈ pm_good := pm_tab (i := 51) (by decide +kernel) rfl
set_option maxHeartbeats 4000000 in
set_option maxRecDepth 100000 in
theorem c_X3_init (D : va_G) (tc : Nat → ClassId) (h : Nat) : gm_CT D tc mi_X3_init [.ref h] [(h, .inr (3, [.int 0, .null, .null]))] (fun v u => v = none ∧ ∃ q12 q20 : Nat, u = [(h, .inr (3, [.int 0, .ref q12, .ref q20])), (q12, .inl (tc 0, 16, .inl (fun _ => 0))), (q20, .inl (tc 0, 16, .inl (fun _ => 0)))]) := by
  refine gm_CT_of (lo := [some (.ref h)]) (by decide +kernel) rfl rfl (by intro v hv; simp at hv; rcases hv with rfl <;> rfl) (Nat.le_of_ble_eq_true rfl) rfl ?_
  refine gm_aload_n (j := 0) (by decide +kernel) rfl rfl ?_
  refine gm_objInit (ix := 3) (pm_tab (i := 53) (by decide +kernel) rfl) (by decide) (by decide) (by decide +kernel) ?_
  refine gm_aload_n (j := 0) (by decide +kernel) rfl rfl ?_
  refine gm_iconst (z := 0) (v := 0) rfl (by decide +kernel) ?_
  refine gm_put (ix := 9) (ci := 3) (N := 3) (C := RX3) (T := TX3) (ty := .int) 0 0 pm_cf3 rfl rfl (by decide) (pm_tab (i := 54) (by decide +kernel) rfl) rfl (by decide +kernel) rfl rfl (Nat.le_of_ble_eq_true rfl) (by decide +kernel) ?_
  show gm_V D tc mi_X3_init _ 0 0 9 [some (.ref h)] [] [(h, .inr (3, [.int 0, .null, .null]))]
  refine gm_aload_n (j := 0) (by decide +kernel) rfl rfl ?_
  refine gm_bipush (z := 16) (v := 16) rfl (by decide +kernel) ?_
  refine gm_newa_int (N := 16) (by decide) (by decide) (by decide) (by decide) (by decide) (by decide +kernel) (fun q12 => ?_)
  show gm_V D tc mi_X3_init _ 1 16 14 [some (.ref h)] [.ref q12, .ref h] [(h, .inr (3, [.int 0, .null, .null])), (q12, .inl (tc 0, 16, .inl (fun _ => 0)))]
  refine gm_putF (ix := 15) (ci := 3) (N := 3) (C := RX3) (T := TX3) (ty := .array .int) 0 1 pm_cf3 rfl rfl (by decide) (pm_tab (i := 57) (by decide +kernel) rfl) rfl rfl rfl (by decide +kernel) rfl rfl (Nat.le_of_ble_eq_true rfl) (by decide +kernel) ?_
  show gm_V D tc mi_X3_init _ 1 16 17 [some (.ref h)] [] [(h, .inr (3, [.int 0, .ref q12, .null])), (q12, .inl (tc 0, 16, .inl (fun _ => 0)))]
  refine gm_aload_n (j := 0) (by decide +kernel) rfl rfl ?_
  refine gm_bipush (z := 16) (v := 16) rfl (by decide +kernel) ?_
  refine gm_newa_int (N := 16) (by decide) (by decide) (by decide) (by decide) (by decide) (by decide +kernel) (fun q20 => ?_)
  show gm_V D tc mi_X3_init _ 2 32 22 [some (.ref h)] [.ref q20, .ref h] [(h, .inr (3, [.int 0, .ref q12, .null])), (q12, .inl (tc 0, 16, .inl (fun _ => 0))), (q20, .inl (tc 0, 16, .inl (fun _ => 0)))]
  refine gm_putF (ix := 19) (ci := 3) (N := 3) (C := RX3) (T := TX3) (ty := .array .int) 0 2 pm_cf3 rfl rfl (by decide) (pm_tab (i := 59) (by decide +kernel) rfl) rfl rfl rfl (by decide +kernel) rfl rfl (Nat.le_of_ble_eq_true rfl) (by decide +kernel) ?_
  show gm_V D tc mi_X3_init _ 2 32 25 [some (.ref h)] [] [(h, .inr (3, [.int 0, .ref q12, .ref q20])), (q12, .inl (tc 0, 16, .inl (fun _ => 0))), (q20, .inl (tc 0, 16, .inl (fun _ => 0)))]
  exact gm_vret rfl (by decide) (by decide) (by decide +kernel) ⟨rfl, q12, q20, rfl⟩
abbrev mi_X6_init : pm_Mi := (6, yX6_init, cX6_init, 1, none, { frames := 1, cells := 4, slots := 80, locals := 21 }, [])
theorem cal_X6_init : pm_Cal mi_X6_init 0 := ⟨pm_tab (i := 73) (by decide +kernel) rfl, pm_tab (i := 4) (by decide +kernel) rfl, rfl, by decide +kernel, by decide +kernel, by decide +kernel⟩
theorem im_X6_init : Cond.instanceMethod (pm_y mi_X6_init) ∈ pm_good := pm_tab (i := 72) (by decide +kernel) rfl
set_option maxHeartbeats 4000000 in
set_option maxRecDepth 100000 in
theorem c_X6_init (D : va_G) (tc : Nat → ClassId) (h : Nat) : gm_CT D tc mi_X6_init [.ref h] [(h, .inr (6, [.int 0, .null, .null, .null, .null]))] (fun v u => v = none ∧ ∃ q12 q20 q28 q36 : Nat, u = [(h, .inr (6, [.int 0, .ref q12, .ref q20, .ref q28, .ref q36])), (q12, .inl (tc 0, 20, .inl (fun _ => 0))), (q20, .inl (tc 0, 20, .inl (fun _ => 0))), (q28, .inl (tc 0, 20, .inl (fun _ => 0))), (q36, .inl (tc 0, 20, .inl (fun _ => 0)))]) := by
  refine gm_CT_of (lo := [some (.ref h)]) (by decide +kernel) rfl rfl (by intro v hv; simp at hv; rcases hv with rfl <;> rfl) (Nat.le_of_ble_eq_true rfl) rfl ?_
  refine gm_aload_n (j := 0) (by decide +kernel) rfl rfl ?_
  refine gm_objInit (ix := 3) (pm_tab (i := 74) (by decide +kernel) rfl) (by decide) (by decide) (by decide +kernel) ?_
  refine gm_aload_n (j := 0) (by decide +kernel) rfl rfl ?_
  refine gm_iconst (z := 0) (v := 0) rfl (by decide +kernel) ?_
  refine gm_put (ix := 9) (ci := 6) (N := 5) (C := RX6) (T := TX6) (ty := .int) 0 0 pm_cf6 rfl rfl (by decide) (pm_tab (i := 75) (by decide +kernel) rfl) rfl (by decide +kernel) rfl rfl (Nat.le_of_ble_eq_true rfl) (by decide +kernel) ?_
  show gm_V D tc mi_X6_init _ 0 0 9 [some (.ref h)] [] [(h, .inr (6, [.int 0, .null, .null, .null, .null]))]
  refine gm_aload_n (j := 0) (by decide +kernel) rfl rfl ?_
  refine gm_bipush (z := 20) (v := 20) rfl (by decide +kernel) ?_
  refine gm_newa_int (N := 20) (by decide) (by decide) (by decide) (by decide) (by decide) (by decide +kernel) (fun q12 => ?_)
  show gm_V D tc mi_X6_init _ 1 20 14 [some (.ref h)] [.ref q12, .ref h] [(h, .inr (6, [.int 0, .null, .null, .null, .null])), (q12, .inl (tc 0, 20, .inl (fun _ => 0)))]
  refine gm_putF (ix := 15) (ci := 6) (N := 5) (C := RX6) (T := TX6) (ty := .array .int) 0 1 pm_cf6 rfl rfl (by decide) (pm_tab (i := 78) (by decide +kernel) rfl) rfl rfl rfl (by decide +kernel) rfl rfl (Nat.le_of_ble_eq_true rfl) (by decide +kernel) ?_
  show gm_V D tc mi_X6_init _ 1 20 17 [some (.ref h)] [] [(h, .inr (6, [.int 0, .ref q12, .null, .null, .null])), (q12, .inl (tc 0, 20, .inl (fun _ => 0)))]
  refine gm_aload_n (j := 0) (by decide +kernel) rfl rfl ?_
  refine gm_bipush (z := 20) (v := 20) rfl (by decide +kernel) ?_
  refine gm_newa_int (N := 20) (by decide) (by decide) (by decide) (by decide) (by decide) (by decide +kernel) (fun q20 => ?_)
  show gm_V D tc mi_X6_init _ 2 40 22 [some (.ref h)] [.ref q20, .ref h] [(h, .inr (6, [.int 0, .ref q12, .null, .null, .null])), (q12, .inl (tc 0, 20, .inl (fun _ => 0))), (q20, .inl (tc 0, 20, .inl (fun _ => 0)))]
  refine gm_putF (ix := 19) (ci := 6) (N := 5) (C := RX6) (T := TX6) (ty := .array .int) 0 2 pm_cf6 rfl rfl (by decide) (pm_tab (i := 80) (by decide +kernel) rfl) rfl rfl rfl (by decide +kernel) rfl rfl (Nat.le_of_ble_eq_true rfl) (by decide +kernel) ?_
  show gm_V D tc mi_X6_init _ 2 40 25 [some (.ref h)] [] [(h, .inr (6, [.int 0, .ref q12, .ref q20, .null, .null])), (q12, .inl (tc 0, 20, .inl (fun _ => 0))), (q20, .inl (tc 0, 20, .inl (fun _ => 0)))]
  refine gm_aload_n (j := 0) (by decide +kernel) rfl rfl ?_
  refine gm_bipush (z := 20) (v := 20) rfl (by decide +kernel) ?_
  refine gm_newa_int (N := 20) (by decide) (by decide) (by decide) (by decide) (by decide) (by decide +kernel) (fun q28 => ?_)
  show gm_V D tc mi_X6_init _ 3 60 30 [some (.ref h)] [.ref q28, .ref h] [(h, .inr (6, [.int 0, .ref q12, .ref q20, .null, .null])), (q12, .inl (tc 0, 20, .inl (fun _ => 0))), (q20, .inl (tc 0, 20, .inl (fun _ => 0))), (q28, .inl (tc 0, 20, .inl (fun _ => 0)))]
  refine gm_putF (ix := 22) (ci := 6) (N := 5) (C := RX6) (T := TX6) (ty := .array .int) 0 3 pm_cf6 rfl rfl (by decide) (pm_tab (i := 83) (by decide +kernel) rfl) rfl rfl rfl (by decide +kernel) rfl rfl (Nat.le_of_ble_eq_true rfl) (by decide +kernel) ?_
  show gm_V D tc mi_X6_init _ 3 60 33 [some (.ref h)] [] [(h, .inr (6, [.int 0, .ref q12, .ref q20, .ref q28, .null])), (q12, .inl (tc 0, 20, .inl (fun _ => 0))), (q20, .inl (tc 0, 20, .inl (fun _ => 0))), (q28, .inl (tc 0, 20, .inl (fun _ => 0)))]
  refine gm_aload_n (j := 0) (by decide +kernel) rfl rfl ?_
  refine gm_bipush (z := 20) (v := 20) rfl (by decide +kernel) ?_
  refine gm_newa_int (N := 20) (by decide) (by decide) (by decide) (by decide) (by decide) (by decide +kernel) (fun q36 => ?_)
  show gm_V D tc mi_X6_init _ 4 80 38 [some (.ref h)] [.ref q36, .ref h] [(h, .inr (6, [.int 0, .ref q12, .ref q20, .ref q28, .null])), (q12, .inl (tc 0, 20, .inl (fun _ => 0))), (q20, .inl (tc 0, 20, .inl (fun _ => 0))), (q28, .inl (tc 0, 20, .inl (fun _ => 0))), (q36, .inl (tc 0, 20, .inl (fun _ => 0)))]
  refine gm_putF (ix := 25) (ci := 6) (N := 5) (C := RX6) (T := TX6) (ty := .array .int) 0 4 pm_cf6 rfl rfl (by decide) (pm_tab (i := 86) (by decide +kernel) rfl) rfl rfl rfl (by decide +kernel) rfl rfl (Nat.le_of_ble_eq_true rfl) (by decide +kernel) ?_
  show gm_V D tc mi_X6_init _ 4 80 41 [some (.ref h)] [] [(h, .inr (6, [.int 0, .ref q12, .ref q20, .ref q28, .ref q36])), (q12, .inl (tc 0, 20, .inl (fun _ => 0))), (q20, .inl (tc 0, 20, .inl (fun _ => 0))), (q28, .inl (tc 0, 20, .inl (fun _ => 0))), (q36, .inl (tc 0, 20, .inl (fun _ => 0)))]
  exact gm_vret rfl (by decide) (by decide) (by decide +kernel) ⟨rfl, q12, q20, q28, q36, rfl⟩
abbrev mi_X8_init : pm_Mi := (8, yX8_init, cX8_init, 1, none, { frames := 1, cells := 5, slots := 50, locals := 21 }, [])
theorem cal_X8_init : pm_Cal mi_X8_init 0 := ⟨pm_tab (i := 102) (by decide +kernel) rfl, pm_tab (i := 5) (by decide +kernel) rfl, rfl, by decide +kernel, by decide +kernel, by decide +kernel⟩
theorem im_X8_init : Cond.instanceMethod (pm_y mi_X8_init) ∈ pm_good := pm_tab (i := 101) (by decide +kernel) rfl
set_option maxHeartbeats 4000000 in
set_option maxRecDepth 100000 in
theorem c_X8_init (D : va_G) (tc : Nat → ClassId) (h : Nat) : gm_CT D tc mi_X8_init [.ref h] [(h, .inr (8, [.int 0, .null, .null, .null, .null, .null]))] (fun v u => v = none ∧ ∃ q12 q20 q28 q36 q44 : Nat, u = [(h, .inr (8, [.int 0, .ref q12, .ref q20, .ref q28, .ref q36, .ref q44])), (q12, .inl (tc 0, 10, .inl (fun _ => 0))), (q20, .inl (tc 0, 10, .inl (fun _ => 0))), (q28, .inl (tc 0, 10, .inl (fun _ => 0))), (q36, .inl (tc 0, 10, .inl (fun _ => 0))), (q44, .inl (tc 0, 10, .inl (fun _ => 0)))]) := by
  refine gm_CT_of (lo := [some (.ref h)]) (by decide +kernel) rfl rfl (by intro v hv; simp at hv; rcases hv with rfl <;> rfl) (Nat.le_of_ble_eq_true rfl) rfl ?_
  refine gm_aload_n (j := 0) (by decide +kernel) rfl rfl ?_
  refine gm_objInit (ix := 3) (pm_tab (i := 103) (by decide +kernel) rfl) (by decide) (by decide) (by decide +kernel) ?_
  refine gm_aload_n (j := 0) (by decide +kernel) rfl rfl ?_
  refine gm_iconst (z := 0) (v := 0) rfl (by decide +kernel) ?_
  refine gm_put (ix := 9) (ci := 8) (N := 6) (C := RX8) (T := TX8) (ty := .int) 0 0 pm_cf8 rfl rfl (by decide) (pm_tab (i := 104) (by decide +kernel) rfl) rfl (by decide +kernel) rfl rfl (Nat.le_of_ble_eq_true rfl) (by decide +kernel) ?_
  show gm_V D tc mi_X8_init _ 0 0 9 [some (.ref h)] [] [(h, .inr (8, [.int 0, .null, .null, .null, .null, .null]))]
  refine gm_aload_n (j := 0) (by decide +kernel) rfl rfl ?_
  refine gm_bipush (z := 10) (v := 10) rfl (by decide +kernel) ?_
  refine gm_newa_int (N := 10) (by decide) (by decide) (by decide) (by decide) (by decide) (by decide +kernel) (fun q12 => ?_)
  show gm_V D tc mi_X8_init _ 1 10 14 [some (.ref h)] [.ref q12, .ref h] [(h, .inr (8, [.int 0, .null, .null, .null, .null, .null])), (q12, .inl (tc 0, 10, .inl (fun _ => 0)))]
  refine gm_putF (ix := 15) (ci := 8) (N := 6) (C := RX8) (T := TX8) (ty := .array .int) 0 1 pm_cf8 rfl rfl (by decide) (pm_tab (i := 106) (by decide +kernel) rfl) rfl rfl rfl (by decide +kernel) rfl rfl (Nat.le_of_ble_eq_true rfl) (by decide +kernel) ?_
  show gm_V D tc mi_X8_init _ 1 10 17 [some (.ref h)] [] [(h, .inr (8, [.int 0, .ref q12, .null, .null, .null, .null])), (q12, .inl (tc 0, 10, .inl (fun _ => 0)))]
  refine gm_aload_n (j := 0) (by decide +kernel) rfl rfl ?_
  refine gm_bipush (z := 10) (v := 10) rfl (by decide +kernel) ?_
  refine gm_newa_int (N := 10) (by decide) (by decide) (by decide) (by decide) (by decide) (by decide +kernel) (fun q20 => ?_)
  show gm_V D tc mi_X8_init _ 2 20 22 [some (.ref h)] [.ref q20, .ref h] [(h, .inr (8, [.int 0, .ref q12, .null, .null, .null, .null])), (q12, .inl (tc 0, 10, .inl (fun _ => 0))), (q20, .inl (tc 0, 10, .inl (fun _ => 0)))]
  refine gm_putF (ix := 19) (ci := 8) (N := 6) (C := RX8) (T := TX8) (ty := .array .int) 0 2 pm_cf8 rfl rfl (by decide) (pm_tab (i := 107) (by decide +kernel) rfl) rfl rfl rfl (by decide +kernel) rfl rfl (Nat.le_of_ble_eq_true rfl) (by decide +kernel) ?_
  show gm_V D tc mi_X8_init _ 2 20 25 [some (.ref h)] [] [(h, .inr (8, [.int 0, .ref q12, .ref q20, .null, .null, .null])), (q12, .inl (tc 0, 10, .inl (fun _ => 0))), (q20, .inl (tc 0, 10, .inl (fun _ => 0)))]
  refine gm_aload_n (j := 0) (by decide +kernel) rfl rfl ?_
  refine gm_bipush (z := 10) (v := 10) rfl (by decide +kernel) ?_
  refine gm_newa_int (N := 10) (by decide) (by decide) (by decide) (by decide) (by decide) (by decide +kernel) (fun q28 => ?_)
  show gm_V D tc mi_X8_init _ 3 30 30 [some (.ref h)] [.ref q28, .ref h] [(h, .inr (8, [.int 0, .ref q12, .ref q20, .null, .null, .null])), (q12, .inl (tc 0, 10, .inl (fun _ => 0))), (q20, .inl (tc 0, 10, .inl (fun _ => 0))), (q28, .inl (tc 0, 10, .inl (fun _ => 0)))]
  refine gm_putF (ix := 22) (ci := 8) (N := 6) (C := RX8) (T := TX8) (ty := .array .int) 0 3 pm_cf8 rfl rfl (by decide) (pm_tab (i := 108) (by decide +kernel) rfl) rfl rfl rfl (by decide +kernel) rfl rfl (Nat.le_of_ble_eq_true rfl) (by decide +kernel) ?_
  show gm_V D tc mi_X8_init _ 3 30 33 [some (.ref h)] [] [(h, .inr (8, [.int 0, .ref q12, .ref q20, .ref q28, .null, .null])), (q12, .inl (tc 0, 10, .inl (fun _ => 0))), (q20, .inl (tc 0, 10, .inl (fun _ => 0))), (q28, .inl (tc 0, 10, .inl (fun _ => 0)))]
  refine gm_aload_n (j := 0) (by decide +kernel) rfl rfl ?_
  refine gm_bipush (z := 10) (v := 10) rfl (by decide +kernel) ?_
  refine gm_newa_int (N := 10) (by decide) (by decide) (by decide) (by decide) (by decide) (by decide +kernel) (fun q36 => ?_)
  show gm_V D tc mi_X8_init _ 4 40 38 [some (.ref h)] [.ref q36, .ref h] [(h, .inr (8, [.int 0, .ref q12, .ref q20, .ref q28, .null, .null])), (q12, .inl (tc 0, 10, .inl (fun _ => 0))), (q20, .inl (tc 0, 10, .inl (fun _ => 0))), (q28, .inl (tc 0, 10, .inl (fun _ => 0))), (q36, .inl (tc 0, 10, .inl (fun _ => 0)))]
  refine gm_putF (ix := 25) (ci := 8) (N := 6) (C := RX8) (T := TX8) (ty := .array .int) 0 4 pm_cf8 rfl rfl (by decide) (pm_tab (i := 109) (by decide +kernel) rfl) rfl rfl rfl (by decide +kernel) rfl rfl (Nat.le_of_ble_eq_true rfl) (by decide +kernel) ?_
  show gm_V D tc mi_X8_init _ 4 40 41 [some (.ref h)] [] [(h, .inr (8, [.int 0, .ref q12, .ref q20, .ref q28, .ref q36, .null])), (q12, .inl (tc 0, 10, .inl (fun _ => 0))), (q20, .inl (tc 0, 10, .inl (fun _ => 0))), (q28, .inl (tc 0, 10, .inl (fun _ => 0))), (q36, .inl (tc 0, 10, .inl (fun _ => 0)))]
  refine gm_aload_n (j := 0) (by decide +kernel) rfl rfl ?_
  refine gm_bipush (z := 10) (v := 10) rfl (by decide +kernel) ?_
  refine gm_newa_int (N := 10) (by decide) (by decide) (by decide) (by decide) (by decide) (by decide +kernel) (fun q44 => ?_)
  show gm_V D tc mi_X8_init _ 5 50 46 [some (.ref h)] [.ref q44, .ref h] [(h, .inr (8, [.int 0, .ref q12, .ref q20, .ref q28, .ref q36, .null])), (q12, .inl (tc 0, 10, .inl (fun _ => 0))), (q20, .inl (tc 0, 10, .inl (fun _ => 0))), (q28, .inl (tc 0, 10, .inl (fun _ => 0))), (q36, .inl (tc 0, 10, .inl (fun _ => 0))), (q44, .inl (tc 0, 10, .inl (fun _ => 0)))]
  refine gm_putF (ix := 28) (ci := 8) (N := 6) (C := RX8) (T := TX8) (ty := .array .int) 0 5 pm_cf8 rfl rfl (by decide) (pm_tab (i := 110) (by decide +kernel) rfl) rfl rfl rfl (by decide +kernel) rfl rfl (Nat.le_of_ble_eq_true rfl) (by decide +kernel) ?_
  show gm_V D tc mi_X8_init _ 5 50 49 [some (.ref h)] [] [(h, .inr (8, [.int 0, .ref q12, .ref q20, .ref q28, .ref q36, .ref q44])), (q12, .inl (tc 0, 10, .inl (fun _ => 0))), (q20, .inl (tc 0, 10, .inl (fun _ => 0))), (q28, .inl (tc 0, 10, .inl (fun _ => 0))), (q36, .inl (tc 0, 10, .inl (fun _ => 0))), (q44, .inl (tc 0, 10, .inl (fun _ => 0)))]
  exact gm_vret rfl (by decide) (by decide) (by decide +kernel) ⟨rfl, q12, q20, q28, q36, q44, rfl⟩
abbrev mi_X7_init : pm_Mi := (7, yX7_init, cX7_init, 1, none, { frames := 1, cells := 5, slots := 60, locals := 21 }, [])
theorem cal_X7_init : pm_Cal mi_X7_init 0 := ⟨pm_tab (i := 128) (by decide +kernel) rfl, pm_tab (i := 6) (by decide +kernel) rfl, rfl, by decide +kernel, by decide +kernel, by decide +kernel⟩
theorem im_X7_init : Cond.instanceMethod (pm_y mi_X7_init) ∈ pm_good := pm_tab (i := 127) (by decide +kernel) rfl
set_option maxHeartbeats 4000000 in
set_option maxRecDepth 100000 in
theorem c_X7_init (D : va_G) (tc : Nat → ClassId) (h : Nat) : gm_CT D tc mi_X7_init [.ref h] [(h, .inr (7, [.int 0, .null, .null, .null, .null, .null]))] (fun v u => v = none ∧ ∃ q12 q20 q28 q36 q44 : Nat, u = [(h, .inr (7, [.int 0, .ref q12, .ref q20, .ref q28, .ref q36, .ref q44])), (q12, .inl (tc 0, 12, .inl (fun _ => 0))), (q20, .inl (tc 0, 12, .inl (fun _ => 0))), (q28, .inl (tc 0, 12, .inl (fun _ => 0))), (q36, .inl (tc 0, 12, .inl (fun _ => 0))), (q44, .inl (tc 0, 12, .inl (fun _ => 0)))]) := by
  refine gm_CT_of (lo := [some (.ref h)]) (by decide +kernel) rfl rfl (by intro v hv; simp at hv; rcases hv with rfl <;> rfl) (Nat.le_of_ble_eq_true rfl) rfl ?_
  refine gm_aload_n (j := 0) (by decide +kernel) rfl rfl ?_
  refine gm_objInit (ix := 3) (pm_tab (i := 129) (by decide +kernel) rfl) (by decide) (by decide) (by decide +kernel) ?_
  refine gm_aload_n (j := 0) (by decide +kernel) rfl rfl ?_
  refine gm_iconst (z := 0) (v := 0) rfl (by decide +kernel) ?_
  refine gm_put (ix := 9) (ci := 7) (N := 6) (C := RX7) (T := TX7) (ty := .int) 0 0 pm_cf7 rfl rfl (by decide) (pm_tab (i := 130) (by decide +kernel) rfl) rfl (by decide +kernel) rfl rfl (Nat.le_of_ble_eq_true rfl) (by decide +kernel) ?_
  show gm_V D tc mi_X7_init _ 0 0 9 [some (.ref h)] [] [(h, .inr (7, [.int 0, .null, .null, .null, .null, .null]))]
  refine gm_aload_n (j := 0) (by decide +kernel) rfl rfl ?_
  refine gm_bipush (z := 12) (v := 12) rfl (by decide +kernel) ?_
  refine gm_newa_int (N := 12) (by decide) (by decide) (by decide) (by decide) (by decide) (by decide +kernel) (fun q12 => ?_)
  show gm_V D tc mi_X7_init _ 1 12 14 [some (.ref h)] [.ref q12, .ref h] [(h, .inr (7, [.int 0, .null, .null, .null, .null, .null])), (q12, .inl (tc 0, 12, .inl (fun _ => 0)))]
  refine gm_putF (ix := 15) (ci := 7) (N := 6) (C := RX7) (T := TX7) (ty := .array .int) 0 1 pm_cf7 rfl rfl (by decide) (pm_tab (i := 132) (by decide +kernel) rfl) rfl rfl rfl (by decide +kernel) rfl rfl (Nat.le_of_ble_eq_true rfl) (by decide +kernel) ?_
  show gm_V D tc mi_X7_init _ 1 12 17 [some (.ref h)] [] [(h, .inr (7, [.int 0, .ref q12, .null, .null, .null, .null])), (q12, .inl (tc 0, 12, .inl (fun _ => 0)))]
  refine gm_aload_n (j := 0) (by decide +kernel) rfl rfl ?_
  refine gm_bipush (z := 12) (v := 12) rfl (by decide +kernel) ?_
  refine gm_newa_int (N := 12) (by decide) (by decide) (by decide) (by decide) (by decide) (by decide +kernel) (fun q20 => ?_)
  show gm_V D tc mi_X7_init _ 2 24 22 [some (.ref h)] [.ref q20, .ref h] [(h, .inr (7, [.int 0, .ref q12, .null, .null, .null, .null])), (q12, .inl (tc 0, 12, .inl (fun _ => 0))), (q20, .inl (tc 0, 12, .inl (fun _ => 0)))]
  refine gm_putF (ix := 19) (ci := 7) (N := 6) (C := RX7) (T := TX7) (ty := .array .int) 0 2 pm_cf7 rfl rfl (by decide) (pm_tab (i := 133) (by decide +kernel) rfl) rfl rfl rfl (by decide +kernel) rfl rfl (Nat.le_of_ble_eq_true rfl) (by decide +kernel) ?_
  show gm_V D tc mi_X7_init _ 2 24 25 [some (.ref h)] [] [(h, .inr (7, [.int 0, .ref q12, .ref q20, .null, .null, .null])), (q12, .inl (tc 0, 12, .inl (fun _ => 0))), (q20, .inl (tc 0, 12, .inl (fun _ => 0)))]
  refine gm_aload_n (j := 0) (by decide +kernel) rfl rfl ?_
  refine gm_bipush (z := 12) (v := 12) rfl (by decide +kernel) ?_
  refine gm_newa_int (N := 12) (by decide) (by decide) (by decide) (by decide) (by decide) (by decide +kernel) (fun q28 => ?_)
  show gm_V D tc mi_X7_init _ 3 36 30 [some (.ref h)] [.ref q28, .ref h] [(h, .inr (7, [.int 0, .ref q12, .ref q20, .null, .null, .null])), (q12, .inl (tc 0, 12, .inl (fun _ => 0))), (q20, .inl (tc 0, 12, .inl (fun _ => 0))), (q28, .inl (tc 0, 12, .inl (fun _ => 0)))]
  refine gm_putF (ix := 22) (ci := 7) (N := 6) (C := RX7) (T := TX7) (ty := .array .int) 0 3 pm_cf7 rfl rfl (by decide) (pm_tab (i := 134) (by decide +kernel) rfl) rfl rfl rfl (by decide +kernel) rfl rfl (Nat.le_of_ble_eq_true rfl) (by decide +kernel) ?_
  show gm_V D tc mi_X7_init _ 3 36 33 [some (.ref h)] [] [(h, .inr (7, [.int 0, .ref q12, .ref q20, .ref q28, .null, .null])), (q12, .inl (tc 0, 12, .inl (fun _ => 0))), (q20, .inl (tc 0, 12, .inl (fun _ => 0))), (q28, .inl (tc 0, 12, .inl (fun _ => 0)))]
  refine gm_aload_n (j := 0) (by decide +kernel) rfl rfl ?_
  refine gm_bipush (z := 12) (v := 12) rfl (by decide +kernel) ?_
  refine gm_newa_int (N := 12) (by decide) (by decide) (by decide) (by decide) (by decide) (by decide +kernel) (fun q36 => ?_)
  show gm_V D tc mi_X7_init _ 4 48 38 [some (.ref h)] [.ref q36, .ref h] [(h, .inr (7, [.int 0, .ref q12, .ref q20, .ref q28, .null, .null])), (q12, .inl (tc 0, 12, .inl (fun _ => 0))), (q20, .inl (tc 0, 12, .inl (fun _ => 0))), (q28, .inl (tc 0, 12, .inl (fun _ => 0))), (q36, .inl (tc 0, 12, .inl (fun _ => 0)))]
  refine gm_putF (ix := 25) (ci := 7) (N := 6) (C := RX7) (T := TX7) (ty := .array .int) 0 4 pm_cf7 rfl rfl (by decide) (pm_tab (i := 135) (by decide +kernel) rfl) rfl rfl rfl (by decide +kernel) rfl rfl (Nat.le_of_ble_eq_true rfl) (by decide +kernel) ?_
  show gm_V D tc mi_X7_init _ 4 48 41 [some (.ref h)] [] [(h, .inr (7, [.int 0, .ref q12, .ref q20, .ref q28, .ref q36, .null])), (q12, .inl (tc 0, 12, .inl (fun _ => 0))), (q20, .inl (tc 0, 12, .inl (fun _ => 0))), (q28, .inl (tc 0, 12, .inl (fun _ => 0))), (q36, .inl (tc 0, 12, .inl (fun _ => 0)))]
  refine gm_aload_n (j := 0) (by decide +kernel) rfl rfl ?_
  refine gm_bipush (z := 12) (v := 12) rfl (by decide +kernel) ?_
  refine gm_newa_int (N := 12) (by decide) (by decide) (by decide) (by decide) (by decide) (by decide +kernel) (fun q44 => ?_)
  show gm_V D tc mi_X7_init _ 5 60 46 [some (.ref h)] [.ref q44, .ref h] [(h, .inr (7, [.int 0, .ref q12, .ref q20, .ref q28, .ref q36, .null])), (q12, .inl (tc 0, 12, .inl (fun _ => 0))), (q20, .inl (tc 0, 12, .inl (fun _ => 0))), (q28, .inl (tc 0, 12, .inl (fun _ => 0))), (q36, .inl (tc 0, 12, .inl (fun _ => 0))), (q44, .inl (tc 0, 12, .inl (fun _ => 0)))]
  refine gm_putF (ix := 28) (ci := 7) (N := 6) (C := RX7) (T := TX7) (ty := .array .int) 0 5 pm_cf7 rfl rfl (by decide) (pm_tab (i := 136) (by decide +kernel) rfl) rfl rfl rfl (by decide +kernel) rfl rfl (Nat.le_of_ble_eq_true rfl) (by decide +kernel) ?_
  show gm_V D tc mi_X7_init _ 5 60 49 [some (.ref h)] [] [(h, .inr (7, [.int 0, .ref q12, .ref q20, .ref q28, .ref q36, .ref q44])), (q12, .inl (tc 0, 12, .inl (fun _ => 0))), (q20, .inl (tc 0, 12, .inl (fun _ => 0))), (q28, .inl (tc 0, 12, .inl (fun _ => 0))), (q36, .inl (tc 0, 12, .inl (fun _ => 0))), (q44, .inl (tc 0, 12, .inl (fun _ => 0)))]
  exact gm_vret rfl (by decide) (by decide) (by decide +kernel) ⟨rfl, q12, q20, q28, q36, q44, rfl⟩
abbrev mi_X0_init : pm_Mi := (0, yX0_init, cX0_init, 1, none, { frames := 1, cells := 3, slots := 60, locals := 21 }, [])
theorem cal_X0_init : pm_Cal mi_X0_init 0 := ⟨pm_tab (i := 154) (by decide +kernel) rfl, pm_tab (i := 7) (by decide +kernel) rfl, rfl, by decide +kernel, by decide +kernel, by decide +kernel⟩
theorem im_X0_init : Cond.instanceMethod (pm_y mi_X0_init) ∈ pm_good := pm_tab (i := 153) (by decide +kernel) rfl
set_option maxHeartbeats 4000000 in
set_option maxRecDepth 100000 in
theorem c_X0_init (D : va_G) (tc : Nat → ClassId) (h : Nat) : gm_CT D tc mi_X0_init [.ref h] [(h, .inr (0, [.int 0, .null, .null, .null]))] (fun v u => v = none ∧ ∃ q12 q20 q28 : Nat, u = [(h, .inr (0, [.int 0, .ref q12, .ref q20, .ref q28])), (q12, .inl (tc 0, 20, .inl (fun _ => 0))), (q20, .inl (tc 0, 20, .inl (fun _ => 0))), (q28, .inl (tc 0, 20, .inl (fun _ => 0)))]) := by
  refine gm_CT_of (lo := [some (.ref h)]) (by decide +kernel) rfl rfl (by intro v hv; simp at hv; rcases hv with rfl <;> rfl) (Nat.le_of_ble_eq_true rfl) rfl ?_
  refine gm_aload_n (j := 0) (by decide +kernel) rfl rfl ?_
  refine gm_objInit (ix := 3) (pm_tab (i := 155) (by decide +kernel) rfl) (by decide) (by decide) (by decide +kernel) ?_
  refine gm_aload_n (j := 0) (by decide +kernel) rfl rfl ?_
  refine gm_iconst (z := 0) (v := 0) rfl (by decide +kernel) ?_
  refine gm_put (ix := 9) (ci := 0) (N := 4) (C := RX0) (T := TX0) (ty := .int) 0 0 pm_cf0 rfl rfl (by decide) (pm_tab (i := 156) (by decide +kernel) rfl) rfl (by decide +kernel) rfl rfl (Nat.le_of_ble_eq_true rfl) (by decide +kernel) ?_
  show gm_V D tc mi_X0_init _ 0 0 9 [some (.ref h)] [] [(h, .inr (0, [.int 0, .null, .null, .null]))]
  refine gm_aload_n (j := 0) (by decide +kernel) rfl rfl ?_
  refine gm_bipush (z := 20) (v := 20) rfl (by decide +kernel) ?_
  refine gm_newa_int (N := 20) (by decide) (by decide) (by decide) (by decide) (by decide) (by decide +kernel) (fun q12 => ?_)
  show gm_V D tc mi_X0_init _ 1 20 14 [some (.ref h)] [.ref q12, .ref h] [(h, .inr (0, [.int 0, .null, .null, .null])), (q12, .inl (tc 0, 20, .inl (fun _ => 0)))]
  refine gm_putF (ix := 15) (ci := 0) (N := 4) (C := RX0) (T := TX0) (ty := .array .int) 0 1 pm_cf0 rfl rfl (by decide) (pm_tab (i := 158) (by decide +kernel) rfl) rfl rfl rfl (by decide +kernel) rfl rfl (Nat.le_of_ble_eq_true rfl) (by decide +kernel) ?_
  show gm_V D tc mi_X0_init _ 1 20 17 [some (.ref h)] [] [(h, .inr (0, [.int 0, .ref q12, .null, .null])), (q12, .inl (tc 0, 20, .inl (fun _ => 0)))]
  refine gm_aload_n (j := 0) (by decide +kernel) rfl rfl ?_
  refine gm_bipush (z := 20) (v := 20) rfl (by decide +kernel) ?_
  refine gm_newa_int (N := 20) (by decide) (by decide) (by decide) (by decide) (by decide) (by decide +kernel) (fun q20 => ?_)
  show gm_V D tc mi_X0_init _ 2 40 22 [some (.ref h)] [.ref q20, .ref h] [(h, .inr (0, [.int 0, .ref q12, .null, .null])), (q12, .inl (tc 0, 20, .inl (fun _ => 0))), (q20, .inl (tc 0, 20, .inl (fun _ => 0)))]
  refine gm_putF (ix := 19) (ci := 0) (N := 4) (C := RX0) (T := TX0) (ty := .array .int) 0 2 pm_cf0 rfl rfl (by decide) (pm_tab (i := 159) (by decide +kernel) rfl) rfl rfl rfl (by decide +kernel) rfl rfl (Nat.le_of_ble_eq_true rfl) (by decide +kernel) ?_
  show gm_V D tc mi_X0_init _ 2 40 25 [some (.ref h)] [] [(h, .inr (0, [.int 0, .ref q12, .ref q20, .null])), (q12, .inl (tc 0, 20, .inl (fun _ => 0))), (q20, .inl (tc 0, 20, .inl (fun _ => 0)))]
  refine gm_aload_n (j := 0) (by decide +kernel) rfl rfl ?_
  refine gm_bipush (z := 20) (v := 20) rfl (by decide +kernel) ?_
  refine gm_newa_int (N := 20) (by decide) (by decide) (by decide) (by decide) (by decide) (by decide +kernel) (fun q28 => ?_)
  show gm_V D tc mi_X0_init _ 3 60 30 [some (.ref h)] [.ref q28, .ref h] [(h, .inr (0, [.int 0, .ref q12, .ref q20, .null])), (q12, .inl (tc 0, 20, .inl (fun _ => 0))), (q20, .inl (tc 0, 20, .inl (fun _ => 0))), (q28, .inl (tc 0, 20, .inl (fun _ => 0)))]
  refine gm_putF (ix := 22) (ci := 0) (N := 4) (C := RX0) (T := TX0) (ty := .array .int) 0 3 pm_cf0 rfl rfl (by decide) (pm_tab (i := 160) (by decide +kernel) rfl) rfl rfl rfl (by decide +kernel) rfl rfl (Nat.le_of_ble_eq_true rfl) (by decide +kernel) ?_
  show gm_V D tc mi_X0_init _ 3 60 33 [some (.ref h)] [] [(h, .inr (0, [.int 0, .ref q12, .ref q20, .ref q28])), (q12, .inl (tc 0, 20, .inl (fun _ => 0))), (q20, .inl (tc 0, 20, .inl (fun _ => 0))), (q28, .inl (tc 0, 20, .inl (fun _ => 0)))]
  exact gm_vret rfl (by decide) (by decide) (by decide +kernel) ⟨rfl, q12, q20, q28, rfl⟩
abbrev mi_X4_init : pm_Mi := (4, yX4_init, cX4_init, 1, none, { frames := 1, cells := 12, slots := 360, locals := 21 }, [])
theorem cal_X4_init : pm_Cal mi_X4_init 0 := ⟨pm_tab (i := 174) (by decide +kernel) rfl, pm_tab (i := 8) (by decide +kernel) rfl, rfl, by decide +kernel, by decide +kernel, by decide +kernel⟩
theorem im_X4_init : Cond.instanceMethod (pm_y mi_X4_init) ∈ pm_good := pm_tab (i := 173) (by decide +kernel) rfl
set_option maxHeartbeats 4000000 in
set_option maxRecDepth 100000 in
theorem c_X4_init (D : va_G) (tc : Nat → ClassId) (h : Nat) : gm_CT D tc mi_X4_init [.ref h] [(h, .inr (4, [.int 0, .int 0, .null, .null, .null, .null, .null, .null, .null, .null, .null, .null, .null, .null]))] (fun v u => v = none ∧ ∃ q17 q25 q33 q41 q49 q57 q65 q73 q81 q89 q97 q105 : Nat, u = [(h, .inr (4, [.int 0, .int 0, .ref q17, .ref q25, .ref q33, .ref q41, .ref q49, .ref q57, .ref q65, .ref q73, .ref q81, .ref q89, .ref q97, .ref q105])), (q17, .inl (tc 0, 30, .inl (fun _ => 0))), (q25, .inl (tc 0, 30, .inl (fun _ => 0))), (q33, .inl (tc 0, 30, .inl (fun _ => 0))), (q41, .inl (tc 0, 30, .inl (fun _ => 0))), (q49, .inl (tc 0, 30, .inl (fun _ => 0))), (q57, .inl (tc 0, 30, .inl (fun _ => 0))), (q65, .inl (tc 0, 30, .inl (fun _ => 0))), (q73, .inl (tc 0, 30, .inl (fun _ => 0))), (q81, .inl (tc 0, 30, .inl (fun _ => 0))), (q89, .inl (tc 0, 30, .inl (fun _ => 0))), (q97, .inl (tc 0, 30, .inl (fun _ => 0))), (q105, .inl (tc 0, 30, .inl (fun _ => 0)))]) := by
  refine gm_CT_of (lo := [some (.ref h)]) (by decide +kernel) rfl rfl (by intro v hv; simp at hv; rcases hv with rfl <;> rfl) (Nat.le_of_ble_eq_true rfl) rfl ?_
  refine gm_aload_n (j := 0) (by decide +kernel) rfl rfl ?_
  refine gm_objInit (ix := 3) (pm_tab (i := 175) (by decide +kernel) rfl) (by decide) (by decide) (by decide +kernel) ?_
  refine gm_aload_n (j := 0) (by decide +kernel) rfl rfl ?_
  refine gm_iconst (z := 0) (v := 0) rfl (by decide +kernel) ?_
  refine gm_put (ix := 9) (ci := 4) (N := 14) (C := RX4) (T := TX4) (ty := .int) 0 0 pm_cf4 rfl rfl (by decide) (pm_tab (i := 176) (by decide +kernel) rfl) rfl (by decide +kernel) rfl rfl (Nat.le_of_ble_eq_true rfl) (by decide +kernel) ?_
  show gm_V D tc mi_X4_init _ 0 0 9 [some (.ref h)] [] [(h, .inr (4, [.int 0, .int 0, .null, .null, .null, .null, .null, .null, .null, .null, .null, .null, .null, .null]))]
  refine gm_aload_n (j := 0) (by decide +kernel) rfl rfl ?_
  refine gm_iconst (z := 0) (v := 0) rfl (by decide +kernel) ?_
  refine gm_put (ix := 15) (ci := 4) (N := 14) (C := RX4) (T := TX4) (ty := .int) 0 1 pm_cf4 rfl rfl (by decide) (pm_tab (i := 179) (by decide +kernel) rfl) rfl (by decide +kernel) rfl rfl (Nat.le_of_ble_eq_true rfl) (by decide +kernel) ?_
  show gm_V D tc mi_X4_init _ 0 0 14 [some (.ref h)] [] [(h, .inr (4, [.int 0, .int 0, .null, .null, .null, .null, .null, .null, .null, .null, .null, .null, .null, .null]))]
  refine gm_aload_n (j := 0) (by decide +kernel) rfl rfl ?_
  refine gm_bipush (z := 30) (v := 30) rfl (by decide +kernel) ?_
  refine gm_newa_int (N := 30) (by decide) (by decide) (by decide) (by decide) (by decide) (by decide +kernel) (fun q17 => ?_)
  show gm_V D tc mi_X4_init _ 1 30 19 [some (.ref h)] [.ref q17, .ref h] [(h, .inr (4, [.int 0, .int 0, .null, .null, .null, .null, .null, .null, .null, .null, .null, .null, .null, .null])), (q17, .inl (tc 0, 30, .inl (fun _ => 0)))]
  refine gm_putF (ix := 18) (ci := 4) (N := 14) (C := RX4) (T := TX4) (ty := .array .int) 0 2 pm_cf4 rfl rfl (by decide) (pm_tab (i := 181) (by decide +kernel) rfl) rfl rfl rfl (by decide +kernel) rfl rfl (Nat.le_of_ble_eq_true rfl) (by decide +kernel) ?_
  show gm_V D tc mi_X4_init _ 1 30 22 [some (.ref h)] [] [(h, .inr (4, [.int 0, .int 0, .ref q17, .null, .null, .null, .null, .null, .null, .null, .null, .null, .null, .null])), (q17, .inl (tc 0, 30, .inl (fun _ => 0)))]
  refine gm_aload_n (j := 0) (by decide +kernel) rfl rfl ?_
  refine gm_bipush (z := 30) (v := 30) rfl (by decide +kernel) ?_
  refine gm_newa_int (N := 30) (by decide) (by decide) (by decide) (by decide) (by decide) (by decide +kernel) (fun q25 => ?_)
  show gm_V D tc mi_X4_init _ 2 60 27 [some (.ref h)] [.ref q25, .ref h] [(h, .inr (4, [.int 0, .int 0, .ref q17, .null, .null, .null, .null, .null, .null, .null, .null, .null, .null, .null])), (q17, .inl (tc 0, 30, .inl (fun _ => 0))), (q25, .inl (tc 0, 30, .inl (fun _ => 0)))]
  refine gm_putF (ix := 22) (ci := 4) (N := 14) (C := RX4) (T := TX4) (ty := .array .int) 0 3 pm_cf4 rfl rfl (by decide) (pm_tab (i := 183) (by decide +kernel) rfl) rfl rfl rfl (by decide +kernel) rfl rfl (Nat.le_of_ble_eq_true rfl) (by decide +kernel) ?_
  show gm_V D tc mi_X4_init _ 2 60 30 [some (.ref h)] [] [(h, .inr (4, [.int 0, .int 0, .ref q17, .ref q25, .null, .null, .null, .null, .null, .null, .null, .null, .null, .null])), (q17, .inl (tc 0, 30, .inl (fun _ => 0))), (q25, .inl (tc 0, 30, .inl (fun _ => 0)))]
  refine gm_aload_n (j := 0) (by decide +kernel) rfl rfl ?_
  refine gm_bipush (z := 30) (v := 30) rfl (by decide +kernel) ?_
  refine gm_newa_int (N := 30) (by decide) (by decide) (by decide) (by decide) (by decide) (by decide +kernel) (fun q33 => ?_)
  show gm_V D tc mi_X4_init _ 3 90 35 [some (.ref h)] [.ref q33, .ref h] [(h, .inr (4, [.int 0, .int 0, .ref q17, .ref q25, .null, .null, .null, .null, .null, .null, .null, .null, .null, .null])), (q17, .inl (tc 0, 30, .inl (fun _ => 0))), (q25, .inl (tc 0, 30, .inl (fun _ => 0))), (q33, .inl (tc 0, 30, .inl (fun _ => 0)))]
  refine gm_putF (ix := 25) (ci := 4) (N := 14) (C := RX4) (T := TX4) (ty := .array .int) 0 4 pm_cf4 rfl rfl (by decide) (pm_tab (i := 185) (by decide +kernel) rfl) rfl rfl rfl (by decide +kernel) rfl rfl (Nat.le_of_ble_eq_true rfl) (by decide +kernel) ?_
  show gm_V D tc mi_X4_init _ 3 90 38 [some (.ref h)] [] [(h, .inr (4, [.int 0, .int 0, .ref q17, .ref q25, .ref q33, .null, .null, .null, .null, .null, .null, .null, .null, .null])), (q17, .inl (tc 0, 30, .inl (fun _ => 0))), (q25, .inl (tc 0, 30, .inl (fun _ => 0))), (q33, .inl (tc 0, 30, .inl (fun _ => 0)))]
  refine gm_aload_n (j := 0) (by decide +kernel) rfl rfl ?_
  refine gm_bipush (z := 30) (v := 30) rfl (by decide +kernel) ?_
  refine gm_newa_int (N := 30) (by decide) (by decide) (by decide) (by decide) (by decide) (by decide +kernel) (fun q41 => ?_)
  show gm_V D tc mi_X4_init _ 4 120 43 [some (.ref h)] [.ref q41, .ref h] [(h, .inr (4, [.int 0, .int 0, .ref q17, .ref q25, .ref q33, .null, .null, .null, .null, .null, .null, .null, .null, .null])), (q17, .inl (tc 0, 30, .inl (fun _ => 0))), (q25, .inl (tc 0, 30, .inl (fun _ => 0))), (q33, .inl (tc 0, 30, .inl (fun _ => 0))), (q41, .inl (tc 0, 30, .inl (fun _ => 0)))]
  refine gm_putF (ix := 28) (ci := 4) (N := 14) (C := RX4) (T := TX4) (ty := .array .int) 0 5 pm_cf4 rfl rfl (by decide) (pm_tab (i := 187) (by decide +kernel) rfl) rfl rfl rfl (by decide +kernel) rfl rfl (Nat.le_of_ble_eq_true rfl) (by decide +kernel) ?_
  show gm_V D tc mi_X4_init _ 4 120 46 [some (.ref h)] [] [(h, .inr (4, [.int 0, .int 0, .ref q17, .ref q25, .ref q33, .ref q41, .null, .null, .null, .null, .null, .null, .null, .null])), (q17, .inl (tc 0, 30, .inl (fun _ => 0))), (q25, .inl (tc 0, 30, .inl (fun _ => 0))), (q33, .inl (tc 0, 30, .inl (fun _ => 0))), (q41, .inl (tc 0, 30, .inl (fun _ => 0)))]
  refine gm_aload_n (j := 0) (by decide +kernel) rfl rfl ?_
  refine gm_bipush (z := 30) (v := 30) rfl (by decide +kernel) ?_
  refine gm_newa_int (N := 30) (by decide) (by decide) (by decide) (by decide) (by decide) (by decide +kernel) (fun q49 => ?_)
  show gm_V D tc mi_X4_init _ 5 150 51 [some (.ref h)] [.ref q49, .ref h] [(h, .inr (4, [.int 0, .int 0, .ref q17, .ref q25, .ref q33, .ref q41, .null, .null, .null, .null, .null, .null, .null, .null])), (q17, .inl (tc 0, 30, .inl (fun _ => 0))), (q25, .inl (tc 0, 30, .inl (fun _ => 0))), (q33, .inl (tc 0, 30, .inl (fun _ => 0))), (q41, .inl (tc 0, 30, .inl (fun _ => 0))), (q49, .inl (tc 0, 30, .inl (fun _ => 0)))]
  refine gm_putF (ix := 31) (ci := 4) (N := 14) (C := RX4) (T := TX4) (ty := .array .int) 0 6 pm_cf4 rfl rfl (by decide) (pm_tab (i := 189) (by decide +kernel) rfl) rfl rfl rfl (by decide +kernel) rfl rfl (Nat.le_of_ble_eq_true rfl) (by decide +kernel) ?_
  show gm_V D tc mi_X4_init _ 5 150 54 [some (.ref h)] [] [(h, .inr (4, [.int 0, .int 0, .ref q17, .ref q25, .ref q33, .ref q41, .ref q49, .null, .null, .null, .null, .null, .null, .null])), (q17, .inl (tc 0, 30, .inl (fun _ => 0))), (q25, .inl (tc 0, 30, .inl (fun _ => 0))), (q33, .inl (tc 0, 30, .inl (fun _ => 0))), (q41, .inl (tc 0, 30, .inl (fun _ => 0))), (q49, .inl (tc 0, 30, .inl (fun _ => 0)))]
  refine gm_aload_n (j := 0) (by decide +kernel) rfl rfl ?_
  refine gm_bipush (z := 30) (v := 30) rfl (by decide +kernel) ?_
  refine gm_newa_int (N := 30) (by decide) (by decide) (by decide) (by decide) (by decide) (by decide +kernel) (fun q57 => ?_)
  show gm_V D tc mi_X4_init _ 6 180 59 [some (.ref h)] [.ref q57, .ref h] [(h, .inr (4, [.int 0, .int 0, .ref q17, .ref q25, .ref q33, .ref q41, .ref q49, .null, .null, .null, .null, .null, .null, .null])), (q17, .inl (tc 0, 30, .inl (fun _ => 0))), (q25, .inl (tc 0, 30, .inl (fun _ => 0))), (q33, .inl (tc 0, 30, .inl (fun _ => 0))), (q41, .inl (tc 0, 30, .inl (fun _ => 0))), (q49, .inl (tc 0, 30, .inl (fun _ => 0))), (q57, .inl (tc 0, 30, .inl (fun _ => 0)))]
  refine gm_putF (ix := 34) (ci := 4) (N := 14) (C := RX4) (T := TX4) (ty := .array .int) 0 7 pm_cf4 rfl rfl (by decide) (pm_tab (i := 192) (by decide +kernel) rfl) rfl rfl rfl (by decide +kernel) rfl rfl (Nat.le_of_ble_eq_true rfl) (by decide +kernel) ?_
  show gm_V D tc mi_X4_init _ 6 180 62 [some (.ref h)] [] [(h, .inr (4, [.int 0, .int 0, .ref q17, .ref q25, .ref q33, .ref q41, .ref q49, .ref q57, .null, .null, .null, .null, .null, .null])), (q17, .inl (tc 0, 30, .inl (fun _ => 0))), (q25, .inl (tc 0, 30, .inl (fun _ => 0))), (q33, .inl (tc 0, 30, .inl (fun _ => 0))), (q41, .inl (tc 0, 30, .inl (fun _ => 0))), (q49, .inl (tc 0, 30, .inl (fun _ => 0))), (q57, .inl (tc 0, 30, .inl (fun _ => 0)))]
  refine gm_aload_n (j := 0) (by decide +kernel) rfl rfl ?_
  refine gm_bipush (z := 30) (v := 30) rfl (by decide +kernel) ?_
  refine gm_newa_int (N := 30) (by decide) (by decide) (by decide) (by decide) (by decide) (by decide +kernel) (fun q65 => ?_)
  show gm_V D tc mi_X4_init _ 7 210 67 [some (.ref h)] [.ref q65, .ref h] [(h, .inr (4, [.int 0, .int 0, .ref q17, .ref q25, .ref q33, .ref q41, .ref q49, .ref q57, .null, .null, .null, .null, .null, .null])), (q17, .inl (tc 0, 30, .inl (fun _ => 0))), (q25, .inl (tc 0, 30, .inl (fun _ => 0))), (q33, .inl (tc 0, 30, .inl (fun _ => 0))), (q41, .inl (tc 0, 30, .inl (fun _ => 0))), (q49, .inl (tc 0, 30, .inl (fun _ => 0))), (q57, .inl (tc 0, 30, .inl (fun _ => 0))), (q65, .inl (tc 0, 30, .inl (fun _ => 0)))]
  refine gm_putF (ix := 37) (ci := 4) (N := 14) (C := RX4) (T := TX4) (ty := .array .int) 0 8 pm_cf4 rfl rfl (by decide) (pm_tab (i := 193) (by decide +kernel) rfl) rfl rfl rfl (by decide +kernel) rfl rfl (Nat.le_of_ble_eq_true rfl) (by decide +kernel) ?_
  show gm_V D tc mi_X4_init _ 7 210 70 [some (.ref h)] [] [(h, .inr (4, [.int 0, .int 0, .ref q17, .ref q25, .ref q33, .ref q41, .ref q49, .ref q57, .ref q65, .null, .null, .null, .null, .null])), (q17, .inl (tc 0, 30, .inl (fun _ => 0))), (q25, .inl (tc 0, 30, .inl (fun _ => 0))), (q33, .inl (tc 0, 30, .inl (fun _ => 0))), (q41, .inl (tc 0, 30, .inl (fun _ => 0))), (q49, .inl (tc 0, 30, .inl (fun _ => 0))), (q57, .inl (tc 0, 30, .inl (fun _ => 0))), (q65, .inl (tc 0, 30, .inl (fun _ => 0)))]
  refine gm_aload_n (j := 0) (by decide +kernel) rfl rfl ?_
  refine gm_bipush (z := 30) (v := 30) rfl (by decide +kernel) ?_
  refine gm_newa_int (N := 30) (by decide) (by decide) (by decide) (by decide) (by decide) (by decide +kernel) (fun q73 => ?_)
  show gm_V D tc mi_X4_init _ 8 240 75 [some (.ref h)] [.ref q73, .ref h] [(h, .inr (4, [.int 0, .int 0, .ref q17, .ref q25, .ref q33, .ref q41, .ref q49, .ref q57, .ref q65, .null, .null, .null, .null, .null])), (q17, .inl (tc 0, 30, .inl (fun _ => 0))), (q25, .inl (tc 0, 30, .inl (fun _ => 0))), (q33, .inl (tc 0, 30, .inl (fun _ => 0))), (q41, .inl (tc 0, 30, .inl (fun _ => 0))), (q49, .inl (tc 0, 30, .inl (fun _ => 0))), (q57, .inl (tc 0, 30, .inl (fun _ => 0))), (q65, .inl (tc 0, 30, .inl (fun _ => 0))), (q73, .inl (tc 0, 30, .inl (fun _ => 0)))]
  refine gm_putF (ix := 40) (ci := 4) (N := 14) (C := RX4) (T := TX4) (ty := .array .int) 0 9 pm_cf4 rfl rfl (by decide) (pm_tab (i := 194) (by decide +kernel) rfl) rfl rfl rfl (by decide +kernel) rfl rfl (Nat.le_of_ble_eq_true rfl) (by decide +kernel) ?_
  show gm_V D tc mi_X4_init _ 8 240 78 [some (.ref h)] [] [(h, .inr (4, [.int 0, .int 0, .ref q17, .ref q25, .ref q33, .ref q41, .ref q49, .ref q57, .ref q65, .ref q73, .null, .null, .null, .null])), (q17, .inl (tc 0, 30, .inl (fun _ => 0))), (q25, .inl (tc 0, 30, .inl (fun _ => 0))), (q33, .inl (tc 0, 30, .inl (fun _ => 0))), (q41, .inl (tc 0, 30, .inl (fun _ => 0))), (q49, .inl (tc 0, 30, .inl (fun _ => 0))), (q57, .inl (tc 0, 30, .inl (fun _ => 0))), (q65, .inl (tc 0, 30, .inl (fun _ => 0))), (q73, .inl (tc 0, 30, .inl (fun _ => 0)))]
  refine gm_aload_n (j := 0) (by decide +kernel) rfl rfl ?_
  refine gm_bipush (z := 30) (v := 30) rfl (by decide +kernel) ?_
  refine gm_newa_int (N := 30) (by decide) (by decide) (by decide) (by decide) (by decide) (by decide +kernel) (fun q81 => ?_)
  show gm_V D tc mi_X4_init _ 9 270 83 [some (.ref h)] [.ref q81, .ref h] [(h, .inr (4, [.int 0, .int 0, .ref q17, .ref q25, .ref q33, .ref q41, .ref q49, .ref q57, .ref q65, .ref q73, .null, .null, .null, .null])), (q17, .inl (tc 0, 30, .inl (fun _ => 0))), (q25, .inl (tc 0, 30, .inl (fun _ => 0))), (q33, .inl (tc 0, 30, .inl (fun _ => 0))), (q41, .inl (tc 0, 30, .inl (fun _ => 0))), (q49, .inl (tc 0, 30, .inl (fun _ => 0))), (q57, .inl (tc 0, 30, .inl (fun _ => 0))), (q65, .inl (tc 0, 30, .inl (fun _ => 0))), (q73, .inl (tc 0, 30, .inl (fun _ => 0))), (q81, .inl (tc 0, 30, .inl (fun _ => 0)))]
  refine gm_putF (ix := 43) (ci := 4) (N := 14) (C := RX4) (T := TX4) (ty := .array .int) 0 10 pm_cf4 rfl rfl (by decide) (pm_tab (i := 196) (by decide +kernel) rfl) rfl rfl rfl (by decide +kernel) rfl rfl (Nat.le_of_ble_eq_true rfl) (by decide +kernel) ?_
  show gm_V D tc mi_X4_init _ 9 270 86 [some (.ref h)] [] [(h, .inr (4, [.int 0, .int 0, .ref q17, .ref q25, .ref q33, .ref q41, .ref q49, .ref q57, .ref q65, .ref q73, .ref q81, .null, .null, .null])), (q17, .inl (tc 0, 30, .inl (fun _ => 0))), (q25, .inl (tc 0, 30, .inl (fun _ => 0))), (q33, .inl (tc 0, 30, .inl (fun _ => 0))), (q41, .inl (tc 0, 30, .inl (fun _ => 0))), (q49, .inl (tc 0, 30, .inl (fun _ => 0))), (q57, .inl (tc 0, 30, .inl (fun _ => 0))), (q65, .inl (tc 0, 30, .inl (fun _ => 0))), (q73, .inl (tc 0, 30, .inl (fun _ => 0))), (q81, .inl (tc 0, 30, .inl (fun _ => 0)))]
  refine gm_aload_n (j := 0) (by decide +kernel) rfl rfl ?_
  refine gm_bipush (z := 30) (v := 30) rfl (by decide +kernel) ?_
  refine gm_newa_int (N := 30) (by decide) (by decide) (by decide) (by decide) (by decide) (by decide +kernel) (fun q89 => ?_)
  show gm_V D tc mi_X4_init _ 10 300 91 [some (.ref h)] [.ref q89, .ref h] [(h, .inr (4, [.int 0, .int 0, .ref q17, .ref q25, .ref q33, .ref q41, .ref q49, .ref q57, .ref q65, .ref q73, .ref q81, .null, .null, .null])), (q17, .inl (tc 0, 30, .inl (fun _ => 0))), (q25, .inl (tc 0, 30, .inl (fun _ => 0))), (q33, .inl (tc 0, 30, .inl (fun _ => 0))), (q41, .inl (tc 0, 30, .inl (fun _ => 0))), (q49, .inl (tc 0, 30, .inl (fun _ => 0))), (q57, .inl (tc 0, 30, .inl (fun _ => 0))), (q65, .inl (tc 0, 30, .inl (fun _ => 0))), (q73, .inl (tc 0, 30, .inl (fun _ => 0))), (q81, .inl (tc 0, 30, .inl (fun _ => 0))), (q89, .inl (tc 0, 30, .inl (fun _ => 0)))]
  refine gm_putF (ix := 46) (ci := 4) (N := 14) (C := RX4) (T := TX4) (ty := .array .int) 0 11 pm_cf4 rfl rfl (by decide) (pm_tab (i := 197) (by decide +kernel) rfl) rfl rfl rfl (by decide +kernel) rfl rfl (Nat.le_of_ble_eq_true rfl) (by decide +kernel) ?_
  show gm_V D tc mi_X4_init _ 10 300 94 [some (.ref h)] [] [(h, .inr (4, [.int 0, .int 0, .ref q17, .ref q25, .ref q33, .ref q41, .ref q49, .ref q57, .ref q65, .ref q73, .ref q81, .ref q89, .null, .null])), (q17, .inl (tc 0, 30, .inl (fun _ => 0))), (q25, .inl (tc 0, 30, .inl (fun _ => 0))), (q33, .inl (tc 0, 30, .inl (fun _ => 0))), (q41, .inl (tc 0, 30, .inl (fun _ => 0))), (q49, .inl (tc 0, 30, .inl (fun _ => 0))), (q57, .inl (tc 0, 30, .inl (fun _ => 0))), (q65, .inl (tc 0, 30, .inl (fun _ => 0))), (q73, .inl (tc 0, 30, .inl (fun _ => 0))), (q81, .inl (tc 0, 30, .inl (fun _ => 0))), (q89, .inl (tc 0, 30, .inl (fun _ => 0)))]
  refine gm_aload_n (j := 0) (by decide +kernel) rfl rfl ?_
  refine gm_bipush (z := 30) (v := 30) rfl (by decide +kernel) ?_
  refine gm_newa_int (N := 30) (by decide) (by decide) (by decide) (by decide) (by decide) (by decide +kernel) (fun q97 => ?_)
  show gm_V D tc mi_X4_init _ 11 330 99 [some (.ref h)] [.ref q97, .ref h] [(h, .inr (4, [.int 0, .int 0, .ref q17, .ref q25, .ref q33, .ref q41, .ref q49, .ref q57, .ref q65, .ref q73, .ref q81, .ref q89, .null, .null])), (q17, .inl (tc 0, 30, .inl (fun _ => 0))), (q25, .inl (tc 0, 30, .inl (fun _ => 0))), (q33, .inl (tc 0, 30, .inl (fun _ => 0))), (q41, .inl (tc 0, 30, .inl (fun _ => 0))), (q49, .inl (tc 0, 30, .inl (fun _ => 0))), (q57, .inl (tc 0, 30, .inl (fun _ => 0))), (q65, .inl (tc 0, 30, .inl (fun _ => 0))), (q73, .inl (tc 0, 30, .inl (fun _ => 0))), (q81, .inl (tc 0, 30, .inl (fun _ => 0))), (q89, .inl (tc 0, 30, .inl (fun _ => 0))), (q97, .inl (tc 0, 30, .inl (fun _ => 0)))]
  refine gm_putF (ix := 49) (ci := 4) (N := 14) (C := RX4) (T := TX4) (ty := .array .int) 0 12 pm_cf4 rfl rfl (by decide) (pm_tab (i := 198) (by decide +kernel) rfl) rfl rfl rfl (by decide +kernel) rfl rfl (Nat.le_of_ble_eq_true rfl) (by decide +kernel) ?_
  show gm_V D tc mi_X4_init _ 11 330 102 [some (.ref h)] [] [(h, .inr (4, [.int 0, .int 0, .ref q17, .ref q25, .ref q33, .ref q41, .ref q49, .ref q57, .ref q65, .ref q73, .ref q81, .ref q89, .ref q97, .null])), (q17, .inl (tc 0, 30, .inl (fun _ => 0))), (q25, .inl (tc 0, 30, .inl (fun _ => 0))), (q33, .inl (tc 0, 30, .inl (fun _ => 0))), (q41, .inl (tc 0, 30, .inl (fun _ => 0))), (q49, .inl (tc 0, 30, .inl (fun _ => 0))), (q57, .inl (tc 0, 30, .inl (fun _ => 0))), (q65, .inl (tc 0, 30, .inl (fun _ => 0))), (q73, .inl (tc 0, 30, .inl (fun _ => 0))), (q81, .inl (tc 0, 30, .inl (fun _ => 0))), (q89, .inl (tc 0, 30, .inl (fun _ => 0))), (q97, .inl (tc 0, 30, .inl (fun _ => 0)))]
  refine gm_aload_n (j := 0) (by decide +kernel) rfl rfl ?_
  refine gm_bipush (z := 30) (v := 30) rfl (by decide +kernel) ?_
  refine gm_newa_int (N := 30) (by decide) (by decide) (by decide) (by decide) (by decide) (by decide +kernel) (fun q105 => ?_)
  show gm_V D tc mi_X4_init _ 12 360 107 [some (.ref h)] [.ref q105, .ref h] [(h, .inr (4, [.int 0, .int 0, .ref q17, .ref q25, .ref q33, .ref q41, .ref q49, .ref q57, .ref q65, .ref q73, .ref q81, .ref q89, .ref q97, .null])), (q17, .inl (tc 0, 30, .inl (fun _ => 0))), (q25, .inl (tc 0, 30, .inl (fun _ => 0))), (q33, .inl (tc 0, 30, .inl (fun _ => 0))), (q41, .inl (tc 0, 30, .inl (fun _ => 0))), (q49, .inl (tc 0, 30, .inl (fun _ => 0))), (q57, .inl (tc 0, 30, .inl (fun _ => 0))), (q65, .inl (tc 0, 30, .inl (fun _ => 0))), (q73, .inl (tc 0, 30, .inl (fun _ => 0))), (q81, .inl (tc 0, 30, .inl (fun _ => 0))), (q89, .inl (tc 0, 30, .inl (fun _ => 0))), (q97, .inl (tc 0, 30, .inl (fun _ => 0))), (q105, .inl (tc 0, 30, .inl (fun _ => 0)))]
  refine gm_putF (ix := 52) (ci := 4) (N := 14) (C := RX4) (T := TX4) (ty := .array .int) 0 13 pm_cf4 rfl rfl (by decide) (pm_tab (i := 199) (by decide +kernel) rfl) rfl rfl rfl (by decide +kernel) rfl rfl (Nat.le_of_ble_eq_true rfl) (by decide +kernel) ?_
  show gm_V D tc mi_X4_init _ 12 360 110 [some (.ref h)] [] [(h, .inr (4, [.int 0, .int 0, .ref q17, .ref q25, .ref q33, .ref q41, .ref q49, .ref q57, .ref q65, .ref q73, .ref q81, .ref q89, .ref q97, .ref q105])), (q17, .inl (tc 0, 30, .inl (fun _ => 0))), (q25, .inl (tc 0, 30, .inl (fun _ => 0))), (q33, .inl (tc 0, 30, .inl (fun _ => 0))), (q41, .inl (tc 0, 30, .inl (fun _ => 0))), (q49, .inl (tc 0, 30, .inl (fun _ => 0))), (q57, .inl (tc 0, 30, .inl (fun _ => 0))), (q65, .inl (tc 0, 30, .inl (fun _ => 0))), (q73, .inl (tc 0, 30, .inl (fun _ => 0))), (q81, .inl (tc 0, 30, .inl (fun _ => 0))), (q89, .inl (tc 0, 30, .inl (fun _ => 0))), (q97, .inl (tc 0, 30, .inl (fun _ => 0))), (q105, .inl (tc 0, 30, .inl (fun _ => 0)))]
  exact gm_vret rfl (by decide) (by decide) (by decide +kernel) ⟨rfl, q17, q25, q33, q41, q49, q57, q65, q73, q81, q89, q97, q105, rfl⟩
abbrev mi_X1_init : pm_Mi := (1, yX1_init, cX1_init, 1, none, { frames := 1, cells := 4, slots := 160, locals := 21 }, [])
theorem cal_X1_init : pm_Cal mi_X1_init 0 := ⟨pm_tab (i := 286) (by decide +kernel) rfl, pm_tab (i := 10) (by decide +kernel) rfl, rfl, by decide +kernel, by decide +kernel, by decide +kernel⟩
theorem im_X1_init : Cond.instanceMethod (pm_y mi_X1_init) ∈ pm_good := pm_tab (i := 285) (by decide +kernel) rfl
set_option maxHeartbeats 4000000 in
set_option maxRecDepth 100000 in
theorem c_X1_init (D : va_G) (tc : Nat → ClassId) (h : Nat) : gm_CT D tc mi_X1_init [.ref h] [(h, .inr (1, [.int 0, .int 0, .null, .null, .null, .null, .int 0]))] (fun v u => v = none ∧ ∃ q17 q25 q33 q41 : Nat, u = [(h, .inr (1, [.int 0, .int 0, .ref q17, .ref q25, .ref q33, .ref q41, .int 0])), (q17, .inl (tc 0, 40, .inl (fun _ => 0))), (q25, .inl (tc 0, 40, .inl (fun _ => 0))), (q33, .inl (tc 0, 40, .inl (fun _ => 0))), (q41, .inl (tc 1, 40, .inl (fun _ => 0)))]) := by
  refine gm_CT_of (lo := [some (.ref h)]) (by decide +kernel) rfl rfl (by intro v hv; simp at hv; rcases hv with rfl <;> rfl) (Nat.le_of_ble_eq_true rfl) rfl ?_
  refine gm_aload_n (j := 0) (by decide +kernel) rfl rfl ?_
  refine gm_objInit (ix := 3) (pm_tab (i := 287) (by decide +kernel) rfl) (by decide) (by decide) (by decide +kernel) ?_
  refine gm_aload_n (j := 0) (by decide +kernel) rfl rfl ?_
  refine gm_iconst (z := 0) (v := 0) rfl (by decide +kernel) ?_
  refine gm_put (ix := 9) (ci := 1) (N := 7) (C := RX1) (T := TX1) (ty := .int) 0 0 pm_cf1 rfl rfl (by decide) (pm_tab (i := 288) (by decide +kernel) rfl) rfl (by decide +kernel) rfl rfl (Nat.le_of_ble_eq_true rfl) (by decide +kernel) ?_
  show gm_V D tc mi_X1_init _ 0 0 9 [some (.ref h)] [] [(h, .inr (1, [.int 0, .int 0, .null, .null, .null, .null, .int 0]))]
  refine gm_aload_n (j := 0) (by decide +kernel) rfl rfl ?_
  refine gm_iconst (z := 0) (v := 0) rfl (by decide +kernel) ?_
  refine gm_put (ix := 15) (ci := 1) (N := 7) (C := RX1) (T := TX1) (ty := .int) 0 1 pm_cf1 rfl rfl (by decide) (pm_tab (i := 290) (by decide +kernel) rfl) rfl (by decide +kernel) rfl rfl (Nat.le_of_ble_eq_true rfl) (by decide +kernel) ?_
  show gm_V D tc mi_X1_init _ 0 0 14 [some (.ref h)] [] [(h, .inr (1, [.int 0, .int 0, .null, .null, .null, .null, .int 0]))]
  refine gm_aload_n (j := 0) (by decide +kernel) rfl rfl ?_
  refine gm_bipush (z := 40) (v := 40) rfl (by decide +kernel) ?_
  refine gm_newa_int (N := 40) (by decide) (by decide) (by decide) (by decide) (by decide) (by decide +kernel) (fun q17 => ?_)
  show gm_V D tc mi_X1_init _ 1 40 19 [some (.ref h)] [.ref q17, .ref h] [(h, .inr (1, [.int 0, .int 0, .null, .null, .null, .null, .int 0])), (q17, .inl (tc 0, 40, .inl (fun _ => 0)))]
  refine gm_putF (ix := 18) (ci := 1) (N := 7) (C := RX1) (T := TX1) (ty := .array .int) 0 2 pm_cf1 rfl rfl (by decide) (pm_tab (i := 292) (by decide +kernel) rfl) rfl rfl rfl (by decide +kernel) rfl rfl (Nat.le_of_ble_eq_true rfl) (by decide +kernel) ?_
  show gm_V D tc mi_X1_init _ 1 40 22 [some (.ref h)] [] [(h, .inr (1, [.int 0, .int 0, .ref q17, .null, .null, .null, .int 0])), (q17, .inl (tc 0, 40, .inl (fun _ => 0)))]
  refine gm_aload_n (j := 0) (by decide +kernel) rfl rfl ?_
  refine gm_bipush (z := 40) (v := 40) rfl (by decide +kernel) ?_
  refine gm_newa_int (N := 40) (by decide) (by decide) (by decide) (by decide) (by decide) (by decide +kernel) (fun q25 => ?_)
  show gm_V D tc mi_X1_init _ 2 80 27 [some (.ref h)] [.ref q25, .ref h] [(h, .inr (1, [.int 0, .int 0, .ref q17, .null, .null, .null, .int 0])), (q17, .inl (tc 0, 40, .inl (fun _ => 0))), (q25, .inl (tc 0, 40, .inl (fun _ => 0)))]
  refine gm_putF (ix := 22) (ci := 1) (N := 7) (C := RX1) (T := TX1) (ty := .array .int) 0 3 pm_cf1 rfl rfl (by decide) (pm_tab (i := 294) (by decide +kernel) rfl) rfl rfl rfl (by decide +kernel) rfl rfl (Nat.le_of_ble_eq_true rfl) (by decide +kernel) ?_
  show gm_V D tc mi_X1_init _ 2 80 30 [some (.ref h)] [] [(h, .inr (1, [.int 0, .int 0, .ref q17, .ref q25, .null, .null, .int 0])), (q17, .inl (tc 0, 40, .inl (fun _ => 0))), (q25, .inl (tc 0, 40, .inl (fun _ => 0)))]
  refine gm_aload_n (j := 0) (by decide +kernel) rfl rfl ?_
  refine gm_bipush (z := 40) (v := 40) rfl (by decide +kernel) ?_
  refine gm_newa_int (N := 40) (by decide) (by decide) (by decide) (by decide) (by decide) (by decide +kernel) (fun q33 => ?_)
  show gm_V D tc mi_X1_init _ 3 120 35 [some (.ref h)] [.ref q33, .ref h] [(h, .inr (1, [.int 0, .int 0, .ref q17, .ref q25, .null, .null, .int 0])), (q17, .inl (tc 0, 40, .inl (fun _ => 0))), (q25, .inl (tc 0, 40, .inl (fun _ => 0))), (q33, .inl (tc 0, 40, .inl (fun _ => 0)))]
  refine gm_putF (ix := 25) (ci := 1) (N := 7) (C := RX1) (T := TX1) (ty := .array .int) 0 4 pm_cf1 rfl rfl (by decide) (pm_tab (i := 296) (by decide +kernel) rfl) rfl rfl rfl (by decide +kernel) rfl rfl (Nat.le_of_ble_eq_true rfl) (by decide +kernel) ?_
  show gm_V D tc mi_X1_init _ 3 120 38 [some (.ref h)] [] [(h, .inr (1, [.int 0, .int 0, .ref q17, .ref q25, .ref q33, .null, .int 0])), (q17, .inl (tc 0, 40, .inl (fun _ => 0))), (q25, .inl (tc 0, 40, .inl (fun _ => 0))), (q33, .inl (tc 0, 40, .inl (fun _ => 0)))]
  refine gm_aload_n (j := 0) (by decide +kernel) rfl rfl ?_
  refine gm_bipush (z := 40) (v := 40) rfl (by decide +kernel) ?_
  refine gm_newa_char (N := 40) (by decide) (by decide) (by decide) (by decide) (by decide) (by decide +kernel) (fun q41 => ?_)
  show gm_V D tc mi_X1_init _ 4 160 43 [some (.ref h)] [.ref q41, .ref h] [(h, .inr (1, [.int 0, .int 0, .ref q17, .ref q25, .ref q33, .null, .int 0])), (q17, .inl (tc 0, 40, .inl (fun _ => 0))), (q25, .inl (tc 0, 40, .inl (fun _ => 0))), (q33, .inl (tc 0, 40, .inl (fun _ => 0))), (q41, .inl (tc 1, 40, .inl (fun _ => 0)))]
  refine gm_putF (ix := 28) (ci := 1) (N := 7) (C := RX1) (T := TX1) (ty := .array .char) 0 5 pm_cf1 rfl rfl (by decide) (pm_tab (i := 298) (by decide +kernel) rfl) rfl rfl rfl (by decide +kernel) rfl rfl (Nat.le_of_ble_eq_true rfl) (by decide +kernel) ?_
  show gm_V D tc mi_X1_init _ 4 160 46 [some (.ref h)] [] [(h, .inr (1, [.int 0, .int 0, .ref q17, .ref q25, .ref q33, .ref q41, .int 0])), (q17, .inl (tc 0, 40, .inl (fun _ => 0))), (q25, .inl (tc 0, 40, .inl (fun _ => 0))), (q33, .inl (tc 0, 40, .inl (fun _ => 0))), (q41, .inl (tc 1, 40, .inl (fun _ => 0)))]
  refine gm_aload_n (j := 0) (by decide +kernel) rfl rfl ?_
  refine gm_iconst (z := 0) (v := 0) rfl (by decide +kernel) ?_
  refine gm_put (ix := 32) (ci := 1) (N := 7) (C := RX1) (T := TX1) (ty := .int) 0 6 pm_cf1 rfl rfl (by decide) (pm_tab (i := 299) (by decide +kernel) rfl) rfl (by decide +kernel) rfl rfl (Nat.le_of_ble_eq_true rfl) (by decide +kernel) ?_
  show gm_V D tc mi_X1_init _ 4 160 51 [some (.ref h)] [] [(h, .inr (1, [.int 0, .int 0, .ref q17, .ref q25, .ref q33, .ref q41, .int 0])), (q17, .inl (tc 0, 40, .inl (fun _ => 0))), (q25, .inl (tc 0, 40, .inl (fun _ => 0))), (q33, .inl (tc 0, 40, .inl (fun _ => 0))), (q41, .inl (tc 1, 40, .inl (fun _ => 0)))]
  exact gm_vret rfl (by decide) (by decide) (by decide +kernel) ⟨rfl, q17, q25, q33, q41, rfl⟩
abbrev mi_X10_init : pm_Mi := (10, yX10_init, cX10_init, 1, none, { frames := 1, cells := 7, slots := 6948, locals := 21 }, [])
theorem cal_X10_init : pm_Cal mi_X10_init 0 := ⟨pm_tab (i := 1291) (by decide +kernel) rfl, pm_tab (i := 11) (by decide +kernel) rfl, rfl, by decide +kernel, by decide +kernel, by decide +kernel⟩
theorem im_X10_init : Cond.instanceMethod (pm_y mi_X10_init) ∈ pm_good := pm_tab (i := 1290) (by decide +kernel) rfl
set_option maxHeartbeats 4000000 in
set_option maxRecDepth 100000 in
theorem c_X10_init (D : va_G) (tc : Nat → ClassId) (h : Nat) : gm_CT D tc mi_X10_init [.ref h] [(h, .inr (10, [.null, .null, .null, .int 0, .null, .int 0, .int 0, .int 0, .null, .int 0, .null, .int 0, .int 0, .int 0, .null, .int 0]))] (fun v u => v = none ∧ ∃ q8 q17 q26 q35 q43 q51 q64 : Nat, u = [(h, .inr (10, [.ref q8, .ref q17, .ref q26, .int 0, .ref q35, .int 0, .int 0, .int 0, .ref q43, .int 0, .ref q51, .int 0, .int 0, .int (-1), .ref q64, .int 0])), (q8, .inl (tc 0, 620, .inl (fun _ => 0))), (q17, .inl (tc 0, 620, .inl (fun _ => 0))), (q26, .inl (tc 0, 620, .inl (fun _ => 0))), (q35, .inl (tc 0, 4960, .inl (fun _ => 0))), (q43, .inl (tc 0, 40, .inl (fun _ => 0))), (q51, .inl (tc 0, 40, .inl (fun _ => 0))), (q64, .inl (tc 0, 48, .inl (fun _ => 0)))]) := by
  refine gm_CT_of (lo := [some (.ref h)]) (by decide +kernel) rfl rfl (by intro v hv; simp at hv; rcases hv with rfl <;> rfl) (Nat.le_of_ble_eq_true rfl) rfl ?_
  refine gm_aload_n (j := 0) (by decide +kernel) rfl rfl ?_
  refine gm_objInit (ix := 1) (pm_tab (i := 1292) (by decide +kernel) rfl) (by decide) (by decide) (by decide +kernel) ?_
  refine gm_aload_n (j := 0) (by decide +kernel) rfl rfl ?_
  refine gm_sipush (z := 620) (v := 620) rfl (by decide +kernel) ?_
  refine gm_newa_int (N := 620) (by decide) (by decide) (by decide) (by decide) (by decide) (by decide +kernel) (fun q8 => ?_)
  show gm_V D tc mi_X10_init _ 1 620 10 [some (.ref h)] [.ref q8, .ref h] [(h, .inr (10, [.null, .null, .null, .int 0, .null, .int 0, .int 0, .int 0, .null, .int 0, .null, .int 0, .int 0, .int 0, .null, .int 0])), (q8, .inl (tc 0, 620, .inl (fun _ => 0)))]
  refine gm_putF (ix := 7) (ci := 10) (N := 16) (C := RX10) (T := TX10) (ty := .array .int) 0 0 pm_cf10 rfl rfl (by decide) (pm_tab (i := 1293) (by decide +kernel) rfl) rfl rfl rfl (by decide +kernel) rfl rfl (Nat.le_of_ble_eq_true rfl) (by decide +kernel) ?_
  show gm_V D tc mi_X10_init _ 1 620 13 [some (.ref h)] [] [(h, .inr (10, [.ref q8, .null, .null, .int 0, .null, .int 0, .int 0, .int 0, .null, .int 0, .null, .int 0, .int 0, .int 0, .null, .int 0])), (q8, .inl (tc 0, 620, .inl (fun _ => 0)))]
  refine gm_aload_n (j := 0) (by decide +kernel) rfl rfl ?_
  refine gm_sipush (z := 620) (v := 620) rfl (by decide +kernel) ?_
  refine gm_newa_int (N := 620) (by decide) (by decide) (by decide) (by decide) (by decide) (by decide +kernel) (fun q17 => ?_)
  show gm_V D tc mi_X10_init _ 2 1240 19 [some (.ref h)] [.ref q17, .ref h] [(h, .inr (10, [.ref q8, .null, .null, .int 0, .null, .int 0, .int 0, .int 0, .null, .int 0, .null, .int 0, .int 0, .int 0, .null, .int 0])), (q8, .inl (tc 0, 620, .inl (fun _ => 0))), (q17, .inl (tc 0, 620, .inl (fun _ => 0)))]
  refine gm_putF (ix := 13) (ci := 10) (N := 16) (C := RX10) (T := TX10) (ty := .array .int) 0 1 pm_cf10 rfl rfl (by decide) (pm_tab (i := 1294) (by decide +kernel) rfl) rfl rfl rfl (by decide +kernel) rfl rfl (Nat.le_of_ble_eq_true rfl) (by decide +kernel) ?_
  show gm_V D tc mi_X10_init _ 2 1240 22 [some (.ref h)] [] [(h, .inr (10, [.ref q8, .ref q17, .null, .int 0, .null, .int 0, .int 0, .int 0, .null, .int 0, .null, .int 0, .int 0, .int 0, .null, .int 0])), (q8, .inl (tc 0, 620, .inl (fun _ => 0))), (q17, .inl (tc 0, 620, .inl (fun _ => 0)))]
  refine gm_aload_n (j := 0) (by decide +kernel) rfl rfl ?_
  refine gm_sipush (z := 620) (v := 620) rfl (by decide +kernel) ?_
  refine gm_newa_int (N := 620) (by decide) (by decide) (by decide) (by decide) (by decide) (by decide +kernel) (fun q26 => ?_)
  show gm_V D tc mi_X10_init _ 3 1860 28 [some (.ref h)] [.ref q26, .ref h] [(h, .inr (10, [.ref q8, .ref q17, .null, .int 0, .null, .int 0, .int 0, .int 0, .null, .int 0, .null, .int 0, .int 0, .int 0, .null, .int 0])), (q8, .inl (tc 0, 620, .inl (fun _ => 0))), (q17, .inl (tc 0, 620, .inl (fun _ => 0))), (q26, .inl (tc 0, 620, .inl (fun _ => 0)))]
  refine gm_putF (ix := 16) (ci := 10) (N := 16) (C := RX10) (T := TX10) (ty := .array .int) 0 2 pm_cf10 rfl rfl (by decide) (pm_tab (i := 1295) (by decide +kernel) rfl) rfl rfl rfl (by decide +kernel) rfl rfl (Nat.le_of_ble_eq_true rfl) (by decide +kernel) ?_
  show gm_V D tc mi_X10_init _ 3 1860 31 [some (.ref h)] [] [(h, .inr (10, [.ref q8, .ref q17, .ref q26, .int 0, .null, .int 0, .int 0, .int 0, .null, .int 0, .null, .int 0, .int 0, .int 0, .null, .int 0])), (q8, .inl (tc 0, 620, .inl (fun _ => 0))), (q17, .inl (tc 0, 620, .inl (fun _ => 0))), (q26, .inl (tc 0, 620, .inl (fun _ => 0)))]
  refine gm_aload_n (j := 0) (by decide +kernel) rfl rfl ?_
  refine gm_sipush (z := 4960) (v := 4960) rfl (by decide +kernel) ?_
  refine gm_newa_int (N := 4960) (by decide) (by decide) (by decide) (by decide) (by decide) (by decide +kernel) (fun q35 => ?_)
  show gm_V D tc mi_X10_init _ 4 6820 37 [some (.ref h)] [.ref q35, .ref h] [(h, .inr (10, [.ref q8, .ref q17, .ref q26, .int 0, .null, .int 0, .int 0, .int 0, .null, .int 0, .null, .int 0, .int 0, .int 0, .null, .int 0])), (q8, .inl (tc 0, 620, .inl (fun _ => 0))), (q17, .inl (tc 0, 620, .inl (fun _ => 0))), (q26, .inl (tc 0, 620, .inl (fun _ => 0))), (q35, .inl (tc 0, 4960, .inl (fun _ => 0)))]
  refine gm_putF (ix := 19) (ci := 10) (N := 16) (C := RX10) (T := TX10) (ty := .array .int) 0 4 pm_cf10 rfl rfl (by decide) (pm_tab (i := 1297) (by decide +kernel) rfl) rfl rfl rfl (by decide +kernel) rfl rfl (Nat.le_of_ble_eq_true rfl) (by decide +kernel) ?_
  show gm_V D tc mi_X10_init _ 4 6820 40 [some (.ref h)] [] [(h, .inr (10, [.ref q8, .ref q17, .ref q26, .int 0, .ref q35, .int 0, .int 0, .int 0, .null, .int 0, .null, .int 0, .int 0, .int 0, .null, .int 0])), (q8, .inl (tc 0, 620, .inl (fun _ => 0))), (q17, .inl (tc 0, 620, .inl (fun _ => 0))), (q26, .inl (tc 0, 620, .inl (fun _ => 0))), (q35, .inl (tc 0, 4960, .inl (fun _ => 0)))]
  refine gm_aload_n (j := 0) (by decide +kernel) rfl rfl ?_
  refine gm_bipush (z := 40) (v := 40) rfl (by decide +kernel) ?_
  refine gm_newa_int (N := 40) (by decide) (by decide) (by decide) (by decide) (by decide) (by decide +kernel) (fun q43 => ?_)
  show gm_V D tc mi_X10_init _ 5 6860 45 [some (.ref h)] [.ref q43, .ref h] [(h, .inr (10, [.ref q8, .ref q17, .ref q26, .int 0, .ref q35, .int 0, .int 0, .int 0, .null, .int 0, .null, .int 0, .int 0, .int 0, .null, .int 0])), (q8, .inl (tc 0, 620, .inl (fun _ => 0))), (q17, .inl (tc 0, 620, .inl (fun _ => 0))), (q26, .inl (tc 0, 620, .inl (fun _ => 0))), (q35, .inl (tc 0, 4960, .inl (fun _ => 0))), (q43, .inl (tc 0, 40, .inl (fun _ => 0)))]
  refine gm_putF (ix := 22) (ci := 10) (N := 16) (C := RX10) (T := TX10) (ty := .array .int) 0 8 pm_cf10 rfl rfl (by decide) (pm_tab (i := 1301) (by decide +kernel) rfl) rfl rfl rfl (by decide +kernel) rfl rfl (Nat.le_of_ble_eq_true rfl) (by decide +kernel) ?_
  show gm_V D tc mi_X10_init _ 5 6860 48 [some (.ref h)] [] [(h, .inr (10, [.ref q8, .ref q17, .ref q26, .int 0, .ref q35, .int 0, .int 0, .int 0, .ref q43, .int 0, .null, .int 0, .int 0, .int 0, .null, .int 0])), (q8, .inl (tc 0, 620, .inl (fun _ => 0))), (q17, .inl (tc 0, 620, .inl (fun _ => 0))), (q26, .inl (tc 0, 620, .inl (fun _ => 0))), (q35, .inl (tc 0, 4960, .inl (fun _ => 0))), (q43, .inl (tc 0, 40, .inl (fun _ => 0)))]
  refine gm_aload_n (j := 0) (by decide +kernel) rfl rfl ?_
  refine gm_bipush (z := 40) (v := 40) rfl (by decide +kernel) ?_
  refine gm_newa_int (N := 40) (by decide) (by decide) (by decide) (by decide) (by decide) (by decide +kernel) (fun q51 => ?_)
  show gm_V D tc mi_X10_init _ 6 6900 53 [some (.ref h)] [.ref q51, .ref h] [(h, .inr (10, [.ref q8, .ref q17, .ref q26, .int 0, .ref q35, .int 0, .int 0, .int 0, .ref q43, .int 0, .null, .int 0, .int 0, .int 0, .null, .int 0])), (q8, .inl (tc 0, 620, .inl (fun _ => 0))), (q17, .inl (tc 0, 620, .inl (fun _ => 0))), (q26, .inl (tc 0, 620, .inl (fun _ => 0))), (q35, .inl (tc 0, 4960, .inl (fun _ => 0))), (q43, .inl (tc 0, 40, .inl (fun _ => 0))), (q51, .inl (tc 0, 40, .inl (fun _ => 0)))]
  refine gm_putF (ix := 25) (ci := 10) (N := 16) (C := RX10) (T := TX10) (ty := .array .int) 0 10 pm_cf10 rfl rfl (by decide) (pm_tab (i := 1303) (by decide +kernel) rfl) rfl rfl rfl (by decide +kernel) rfl rfl (Nat.le_of_ble_eq_true rfl) (by decide +kernel) ?_
  show gm_V D tc mi_X10_init _ 6 6900 56 [some (.ref h)] [] [(h, .inr (10, [.ref q8, .ref q17, .ref q26, .int 0, .ref q35, .int 0, .int 0, .int 0, .ref q43, .int 0, .ref q51, .int 0, .int 0, .int 0, .null, .int 0])), (q8, .inl (tc 0, 620, .inl (fun _ => 0))), (q17, .inl (tc 0, 620, .inl (fun _ => 0))), (q26, .inl (tc 0, 620, .inl (fun _ => 0))), (q35, .inl (tc 0, 4960, .inl (fun _ => 0))), (q43, .inl (tc 0, 40, .inl (fun _ => 0))), (q51, .inl (tc 0, 40, .inl (fun _ => 0)))]
  refine gm_aload_n (j := 0) (by decide +kernel) rfl rfl ?_
  refine gm_iconst (z := -1) (v := -1) rfl (by decide +kernel) ?_
  refine gm_put (ix := 28) (ci := 10) (N := 16) (C := RX10) (T := TX10) (ty := .int) 0 13 pm_cf10 rfl rfl (by decide) (pm_tab (i := 1306) (by decide +kernel) rfl) rfl (by decide +kernel) rfl rfl (Nat.le_of_ble_eq_true rfl) (by decide +kernel) ?_
  show gm_V D tc mi_X10_init _ 6 6900 61 [some (.ref h)] [] [(h, .inr (10, [.ref q8, .ref q17, .ref q26, .int 0, .ref q35, .int 0, .int 0, .int 0, .ref q43, .int 0, .ref q51, .int 0, .int 0, .int (-1), .null, .int 0])), (q8, .inl (tc 0, 620, .inl (fun _ => 0))), (q17, .inl (tc 0, 620, .inl (fun _ => 0))), (q26, .inl (tc 0, 620, .inl (fun _ => 0))), (q35, .inl (tc 0, 4960, .inl (fun _ => 0))), (q43, .inl (tc 0, 40, .inl (fun _ => 0))), (q51, .inl (tc 0, 40, .inl (fun _ => 0)))]
  refine gm_aload_n (j := 0) (by decide +kernel) rfl rfl ?_
  refine gm_bipush (z := 48) (v := 48) rfl (by decide +kernel) ?_
  refine gm_newa_int (N := 48) (by decide) (by decide) (by decide) (by decide) (by decide) (by decide +kernel) (fun q64 => ?_)
  show gm_V D tc mi_X10_init _ 7 6948 66 [some (.ref h)] [.ref q64, .ref h] [(h, .inr (10, [.ref q8, .ref q17, .ref q26, .int 0, .ref q35, .int 0, .int 0, .int 0, .ref q43, .int 0, .ref q51, .int 0, .int 0, .int (-1), .null, .int 0])), (q8, .inl (tc 0, 620, .inl (fun _ => 0))), (q17, .inl (tc 0, 620, .inl (fun _ => 0))), (q26, .inl (tc 0, 620, .inl (fun _ => 0))), (q35, .inl (tc 0, 4960, .inl (fun _ => 0))), (q43, .inl (tc 0, 40, .inl (fun _ => 0))), (q51, .inl (tc 0, 40, .inl (fun _ => 0))), (q64, .inl (tc 0, 48, .inl (fun _ => 0)))]
  refine gm_putF (ix := 32) (ci := 10) (N := 16) (C := RX10) (T := TX10) (ty := .array .int) 0 14 pm_cf10 rfl rfl (by decide) (pm_tab (i := 1307) (by decide +kernel) rfl) rfl rfl rfl (by decide +kernel) rfl rfl (Nat.le_of_ble_eq_true rfl) (by decide +kernel) ?_
  show gm_V D tc mi_X10_init _ 7 6948 69 [some (.ref h)] [] [(h, .inr (10, [.ref q8, .ref q17, .ref q26, .int 0, .ref q35, .int 0, .int 0, .int 0, .ref q43, .int 0, .ref q51, .int 0, .int 0, .int (-1), .ref q64, .int 0])), (q8, .inl (tc 0, 620, .inl (fun _ => 0))), (q17, .inl (tc 0, 620, .inl (fun _ => 0))), (q26, .inl (tc 0, 620, .inl (fun _ => 0))), (q35, .inl (tc 0, 4960, .inl (fun _ => 0))), (q43, .inl (tc 0, 40, .inl (fun _ => 0))), (q51, .inl (tc 0, 40, .inl (fun _ => 0))), (q64, .inl (tc 0, 48, .inl (fun _ => 0)))]
  refine gm_aload_n (j := 0) (by decide +kernel) rfl rfl ?_
  refine gm_iconst (z := 0) (v := 0) rfl (by decide +kernel) ?_
  refine gm_put (ix := 35) (ci := 10) (N := 16) (C := RX10) (T := TX10) (ty := .int) 0 7 pm_cf10 rfl rfl (by decide) (pm_tab (i := 1300) (by decide +kernel) rfl) rfl (by decide +kernel) rfl rfl (Nat.le_of_ble_eq_true rfl) (by decide +kernel) ?_
  show gm_V D tc mi_X10_init _ 7 6948 74 [some (.ref h)] [] [(h, .inr (10, [.ref q8, .ref q17, .ref q26, .int 0, .ref q35, .int 0, .int 0, .int 0, .ref q43, .int 0, .ref q51, .int 0, .int 0, .int (-1), .ref q64, .int 0])), (q8, .inl (tc 0, 620, .inl (fun _ => 0))), (q17, .inl (tc 0, 620, .inl (fun _ => 0))), (q26, .inl (tc 0, 620, .inl (fun _ => 0))), (q35, .inl (tc 0, 4960, .inl (fun _ => 0))), (q43, .inl (tc 0, 40, .inl (fun _ => 0))), (q51, .inl (tc 0, 40, .inl (fun _ => 0))), (q64, .inl (tc 0, 48, .inl (fun _ => 0)))]
  exact gm_vret rfl (by decide) (by decide) (by decide +kernel) ⟨rfl, q8, q17, q26, q35, q43, q51, q64, rfl⟩
/-- a memory of zeros -/
def gm_z : pm_Mm := (fun _ _ => 0, fun _ => 0, fun _ => 0, [])
/-- the cells of shapes S at the places that f says, from k on -/
def gm_cl (tc : Nat → ClassId) (f : Nat → Nat) : Nat → List pm_Sh → va_W
  | _, [] => []
  | k, x :: S => (f k, pm_ce tc f gm_z k x) :: gm_cl tc f (k + 1) S
abbrev gm_cells (tc : Nat → ClassId) (f : Nat → Nat) (S : List pm_Sh) : va_W := gm_cl tc f 0 S
theorem gm_cl_map {tc : Nat → ClassId} {f : Nat → Nat} : ∀ (S : List pm_Sh) (k : Nat), S.mapIdx (fun i x => (f (k + i), pm_ce tc f gm_z (k + i) x)) = gm_cl tc f k S
  | [], _ => rfl
  | x :: S, k => by
    have e : (fun (i : Nat) (y : pm_Sh) => ((f (k + (i + 1)), pm_ce tc f gm_z (k + (i + 1)) y) : Nat × va_E)) = fun i y => (f (k + 1 + i), pm_ce tc f gm_z (k + 1 + i) y) := by
      funext i y
      rw [show k + (i + 1) = k + 1 + i by omega]
    rw [List.mapIdx_cons]
    show (f k, pm_ce tc f gm_z k x) :: S.mapIdx (fun i y => (f (k + (i + 1)), pm_ce tc f gm_z (k + (i + 1)) y)) = _
    rw [e, gm_cl_map S (k + 1)]
    rfl
theorem gm_cl_app {tc : Nat → ClassId} {f : Nat → Nat} : ∀ (S1 S2 : List pm_Sh) (k : Nat), gm_cl tc f k (S1 ++ S2) = gm_cl tc f k S1 ++ gm_cl tc f (k + S1.length) S2
  | [], _, _ => rfl
  | x :: S1, S2, k => by
    rw [List.cons_append, gm_cl, gm_cl, gm_cl_app S1 S2 (k + 1), List.length_cons, show k + 1 + S1.length = k + (S1.length + 1) by omega]
    rfl
def gm_at (L : List Nat) : Nat → Nat := fun i => L.getD i 0
