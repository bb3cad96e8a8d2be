/-! a builder of text: what is appended -/
theorem sb_I.app {L L2 : List Nat} {m : Nat} {a a2 : Nat → Int32} (h : sb_I L m a) (h1 : ∀ j, j < L.length → a2 j = a j) (h2 : ∀ i, i < L2.length → L2.getD i 0 < 256 ∧ a2 (L.length + i) = sb_b (L2.getD i 0)) (h3 : sb_Fit a2) (h4 : L.length + L2.length ≤ m) : sb_I (L ++ L2) m a2 := by
  obtain ⟨i1, i2, i3, i4⟩ := h
  refine ⟨fun i hi => ?_, h3, by rw [List.length_append]; exact h4, i4⟩
  rw [List.length_append] at hi
  rw [List.getD_eq_getElem?_getD]
  by_cases e : i < L.length
  · rw [List.getElem?_append_left e, ← List.getD_eq_getElem?_getD, h1 i e]
    exact i1 i e
  · rw [List.getElem?_append_right (by omega), ← List.getD_eq_getElem?_getD]
    have := h2 (i - L.length) (by omega)
    rw [show L.length + (i - L.length) = i by omega] at this
    exact this
theorem lr_dg_a {v : Nat} (h : v < 10) : lr_dg v = [48 + v % 10] := by unfold lr_dg; rw [if_neg (by omega), if_neg (by omega)]; rfl
theorem lr_dg_b {v : Nat} (h : v < 100) (h2 : ¬ v < 10) : lr_dg v = [48 + v / 10 % 10, 48 + v % 10] := by unfold lr_dg; rw [if_neg (by omega), if_pos (by omega)]; rfl
theorem lr_dg_c {v : Nat} (h2 : ¬ v < 100) : lr_dg v = [48 + v / 100, 48 + v / 10 % 10, 48 + v % 10] := by unfold lr_dg; rw [if_pos (by omega), if_pos (by omega)]; rfl
theorem lr_dg_pos (v : Nat) : 1 ≤ (lr_dg v).length := by unfold lr_dg; rw [List.length_append]; simp
theorem lr_dg_lt {v : Nat} (h : v < 1000) : ∀ i, i < (lr_dg v).length → (lr_dg v).getD i 0 < 256 := by
  intro i hi
  have key : ∀ x ∈ lr_dg v, x < 256 := by
    intro x hx
    unfold lr_dg at hx
    simp only [List.mem_append, List.mem_singleton] at hx
    rcases hx with (h1 | h1) | h1
    · split at h1
      · rw [List.mem_singleton] at h1; omega
      · cases h1
    · split at h1
      · rw [List.mem_singleton] at h1; omega
      · cases h1
    · omega
  rw [List.getD_eq_getElem?_getD, List.getElem?_eq_getElem hi]
  exact key _ (List.getElem_mem hi)
set_option maxHeartbeats 4000000 in
set_option maxRecDepth 100000 in
theorem c_J6_stringSize_0f7a4 (D : va_G) (tc : Nat → ClassId) {v : Nat} (hv : v < 1000) : gm_CT D tc mi_J6_stringSize_0f7a4 [.int (nI v)] [] (fun r u => r = some (.int (nI (lr_dg v).length)) ∧ u = []) := by
  refine gm_CT_of (lo := [some (.int (nI v)), none, none, none]) (by decide +kernel) rfl rfl (by intro v hv; simp at hv; rcases hv with rfl <;> first | rfl | assumption) (Nat.le_of_ble_eq_true rfl) rfl ?_
  refine gm_iconst (z := 1) (v := 1) rfl (by decide +kernel) ?_
  refine gm_istore_n (j := 1) (a := 1) (by decide +kernel) rfl (by decide) rfl (Nat.le_of_ble_eq_true rfl) ?_
  show gm_V D tc mi_J6_stringSize_0f7a4 _ 0 0 2 [some (.int (nI v)), some (.int 1), none, none] [] []
  refine gm_iload_n (j := 0) (by decide +kernel) rfl rfl ?_
  refine gm_if_lt (off := 8) 11 (by decide +kernel) (by decide) (fun h9 => absurd h9 (nI_pos (by omega))) (fun _ => ?_)
  show gm_V D tc mi_J6_stringSize_0f7a4 _ 0 0 6 [some (.int (nI v)), some (.int 1), none, none] [] []
  refine gm_iconst (z := 0) (v := 0) rfl (by decide +kernel) ?_
  refine gm_istore_n (j := 1) (a := 1) (by decide +kernel) rfl (by decide) rfl (Nat.le_of_ble_eq_true rfl) ?_
  show gm_V D tc mi_J6_stringSize_0f7a4 _ 0 0 8 [some (.int (nI v)), some (.int 0), none, none] [] []
  refine gm_iload_n (j := 0) (by decide +kernel) rfl rfl ?_
  refine gm_ineg (by decide +kernel) ?_
  refine gm_istore_n (j := 0) (a := 0) (by decide +kernel) rfl (by decide) rfl (Nat.le_of_ble_eq_true rfl) ?_
  show gm_V D tc mi_J6_stringSize_0f7a4 _ 0 0 11 [some (.int (-(nI v))), some (.int 0), none, none] [] []
  refine gm_bipush (z := -10) (v := -10) rfl (by decide +kernel) ?_
  refine gm_istore_n (j := 2) (a := 2) (by decide +kernel) rfl (by decide) rfl (Nat.le_of_ble_eq_true rfl) ?_
  show gm_V D tc mi_J6_stringSize_0f7a4 _ 0 0 14 [some (.int (-(nI v))), some (.int 0), some (.int (-10)), none] [] []
  refine gm_iconst (z := 1) (v := 1) rfl (by decide +kernel) ?_
  refine gm_istore_n (j := 3) (a := 3) (by decide +kernel) rfl (by decide) rfl (Nat.le_of_ble_eq_true rfl) ?_
  show gm_V D tc mi_J6_stringSize_0f7a4 _ 0 0 16 [some (.int (-(nI v))), some (.int 0), some (.int (-10)), some (.int 1)] [] []
  show gm_V D tc mi_J6_stringSize_0f7a4 _ 0 0 16 [some (.int (-(nI v))), some (.int 0), some (.int (-10)), some (.int 1)] [] []
  refine gm_iload_n (j := 3) (by decide +kernel) rfl rfl ?_
  refine gm_bipush (z := 10) (v := 10) rfl (by decide +kernel) ?_
  refine gm_icmp_ge (off := 23) 42 (by decide +kernel) (by decide) (fun h9 => absurd h9 (by decide)) (fun _ => ?_)
  show gm_V D tc mi_J6_stringSize_0f7a4 _ 0 0 22 [some (.int (-(nI v))), some (.int 0), some (.int (-10)), some (.int 1)] [] []
  refine gm_iload_n (j := 0) (by decide +kernel) rfl rfl ?_
  refine gm_iload_n (j := 2) (by decide +kernel) rfl rfl ?_
  by_cases h10 : v < 10
  · rw [lr_dg_a h10]
    refine gm_icmp_le (off := 7) 31 (by decide +kernel) (by decide) (fun h9 => absurd ((sb_nle (a := v) (b := 10) (by omega) (by decide)).mp h9) (by omega)) (fun _ => ?_)
    show gm_V D tc mi_J6_stringSize_0f7a4 _ 0 0 27 [some (.int (-(nI v))), some (.int 0), some (.int (-10)), some (.int 1)] [] []
    refine gm_iload_n (j := 3) (by decide +kernel) rfl rfl ?_
    refine gm_iload_n (j := 1) (by decide +kernel) rfl rfl ?_
    refine gm_iadd (by decide +kernel) ?_
    exact gm_iret (ty := .int) rfl rfl (by decide) (by decide) (by decide +kernel) ⟨rfl, rfl⟩
  refine gm_icmp_le (off := 7) 31 (by decide +kernel) (by decide) (fun _ => ?_) (fun h9 => absurd ((sb_nle (a := v) (b := 10) (by omega) (by decide)).mpr (by omega)) h9)
  show gm_V D tc mi_J6_stringSize_0f7a4 _ 0 0 31 [some (.int (-(nI v))), some (.int 0), some (.int (-10)), some (.int 1)] [] []
  refine gm_bipush (z := 10) (v := 10) rfl (by decide +kernel) ?_
  refine gm_iload_n (j := 2) (by decide +kernel) rfl rfl ?_
  refine gm_imul (by decide +kernel) ?_
  rw [show (10 : Int32) * (-10) = -100 from by decide]
  refine gm_istore_n (j := 2) (a := 2) (by decide +kernel) rfl (by decide) rfl (Nat.le_of_ble_eq_true rfl) ?_
  show gm_V D tc mi_J6_stringSize_0f7a4 _ 0 0 36 [some (.int (-(nI v))), some (.int 0), some (.int (-100)), some (.int 1)] [] []
  refine gm_iinc (a := 3) (z := 1) (v := 1) (by decide +kernel) rfl rfl (by decide) rfl (Nat.le_of_ble_eq_true rfl) ?_
  rw [show (1 : Int32) + 1 = 2 from by decide]
  show gm_V D tc mi_J6_stringSize_0f7a4 _ 0 0 39 [some (.int (-(nI v))), some (.int 0), some (.int (-100)), some (.int 2)] [] []
  refine gm_goto (off := -23) (tgt := 16) (by decide +kernel) (by decide) ?_
  refine gm_iload_n (j := 3) (by decide +kernel) rfl rfl ?_
  refine gm_bipush (z := 10) (v := 10) rfl (by decide +kernel) ?_
  refine gm_icmp_ge (off := 23) 42 (by decide +kernel) (by decide) (fun h9 => absurd h9 (by decide)) (fun _ => ?_)
  show gm_V D tc mi_J6_stringSize_0f7a4 _ 0 0 22 [some (.int (-(nI v))), some (.int 0), some (.int (-100)), some (.int 2)] [] []
  refine gm_iload_n (j := 0) (by decide +kernel) rfl rfl ?_
  refine gm_iload_n (j := 2) (by decide +kernel) rfl rfl ?_
  by_cases h100 : v < 100
  · rw [lr_dg_b h100 h10]
    refine gm_icmp_le (off := 7) 31 (by decide +kernel) (by decide) (fun h9 => absurd ((sb_nle (a := v) (b := 100) (by omega) (by decide)).mp h9) (by omega)) (fun _ => ?_)
    show gm_V D tc mi_J6_stringSize_0f7a4 _ 0 0 27 [some (.int (-(nI v))), some (.int 0), some (.int (-100)), some (.int 2)] [] []
    refine gm_iload_n (j := 3) (by decide +kernel) rfl rfl ?_
    refine gm_iload_n (j := 1) (by decide +kernel) rfl rfl ?_
    refine gm_iadd (by decide +kernel) ?_
    exact gm_iret (ty := .int) rfl rfl (by decide) (by decide) (by decide +kernel) ⟨rfl, rfl⟩
  rw [lr_dg_c h100]
  refine gm_icmp_le (off := 7) 31 (by decide +kernel) (by decide) (fun _ => ?_) (fun h9 => absurd ((sb_nle (a := v) (b := 100) (by omega) (by decide)).mpr (by omega)) h9)
  show gm_V D tc mi_J6_stringSize_0f7a4 _ 0 0 31 [some (.int (-(nI v))), some (.int 0), some (.int (-100)), some (.int 2)] [] []
  refine gm_bipush (z := 10) (v := 10) rfl (by decide +kernel) ?_
  refine gm_iload_n (j := 2) (by decide +kernel) rfl rfl ?_
  refine gm_imul (by decide +kernel) ?_
  rw [show (10 : Int32) * (-100) = -1000 from by decide]
  refine gm_istore_n (j := 2) (a := 2) (by decide +kernel) rfl (by decide) rfl (Nat.le_of_ble_eq_true rfl) ?_
  show gm_V D tc mi_J6_stringSize_0f7a4 _ 0 0 36 [some (.int (-(nI v))), some (.int 0), some (.int (-1000)), some (.int 2)] [] []
  refine gm_iinc (a := 3) (z := 1) (v := 1) (by decide +kernel) rfl rfl (by decide) rfl (Nat.le_of_ble_eq_true rfl) ?_
  rw [show (2 : Int32) + 1 = 3 from by decide]
  show gm_V D tc mi_J6_stringSize_0f7a4 _ 0 0 39 [some (.int (-(nI v))), some (.int 0), some (.int (-1000)), some (.int 3)] [] []
  refine gm_goto (off := -23) (tgt := 16) (by decide +kernel) (by decide) ?_
  refine gm_iload_n (j := 3) (by decide +kernel) rfl rfl ?_
  refine gm_bipush (z := 10) (v := 10) rfl (by decide +kernel) ?_
  refine gm_icmp_ge (off := 23) 42 (by decide +kernel) (by decide) (fun h9 => absurd h9 (by decide)) (fun _ => ?_)
  show gm_V D tc mi_J6_stringSize_0f7a4 _ 0 0 22 [some (.int (-(nI v))), some (.int 0), some (.int (-1000)), some (.int 3)] [] []
  refine gm_iload_n (j := 0) (by decide +kernel) rfl rfl ?_
  refine gm_iload_n (j := 2) (by decide +kernel) rfl rfl ?_
  refine gm_icmp_le (off := 7) 31 (by decide +kernel) (by decide) (fun h9 => absurd ((sb_nle (a := v) (b := 1000) (by omega) (by decide)).mp h9) (by omega)) (fun _ => ?_)
  show gm_V D tc mi_J6_stringSize_0f7a4 _ 0 0 27 [some (.int (-(nI v))), some (.int 0), some (.int (-1000)), some (.int 3)] [] []
  refine gm_iload_n (j := 3) (by decide +kernel) rfl rfl ?_
  refine gm_iload_n (j := 1) (by decide +kernel) rfl rfl ?_
  refine gm_iadd (by decide +kernel) ?_
  exact gm_iret (ty := .int) rfl rfl (by decide) (by decide) (by decide +kernel) ⟨rfl, rfl⟩
set_option maxHeartbeats 4000000 in
set_option maxRecDepth 100000 in
theorem c_J6_getChars_ba4f3 (D : va_G) (tc : Nat → ClassId) (va : Nat) {v n m : Nat} {a : Nat → Int32} (hv : v < 1000) (hm : m ≤ 34) (hn : n + (lr_dg v).length ≤ m) (hf : sb_Fit a) : gm_CT D tc mi_J6_getChars_ba4f3 [.int (nI v), .int (nI (n + (lr_dg v).length)), .ref va] [(va, .inl (tc 5, m, .inl a))] (fun r u => r = some (.int (nI n)) ∧ ∃ a2, u = [(va, .inl (tc 5, m, .inl a2))] ∧ (∀ j, j < n → a2 j = a j) ∧ (∀ i, i < (lr_dg v).length → a2 (n + i) = sb_b ((lr_dg v).getD i 0)) ∧ sb_Fit a2) := by
  refine gm_CT_of (lo := [some (.int (nI v)), some (.int (nI (n + (lr_dg v).length))), some (.ref va), none, none, none, none]) (by decide +kernel) rfl rfl (by intro v hv; simp at hv; rcases hv with rfl | rfl | rfl <;> first | rfl | assumption) (Nat.le_of_ble_eq_true rfl) rfl ?_
  have hd := lr_dg_pos v
  refine gm_iload_n (j := 1) (by decide +kernel) rfl rfl ?_
  refine gm_istore (a := 5) (by decide +kernel) (by decide) rfl (Nat.le_of_ble_eq_true rfl) ?_
  show gm_V D tc mi_J6_getChars_ba4f3 _ 0 0 3 [some (.int (nI v)), some (.int (nI (n + (lr_dg v).length))), some (.ref va), none, none, some (.int (nI (n + (lr_dg v).length))), none] [] [(va, .inl (tc 5, m, .inl (a)))]
  refine gm_iload_n (j := 0) (by decide +kernel) rfl rfl ?_
  refine gm_if_ge (off := 7) 11 (by decide +kernel) (by decide) (fun _ => ?_) (fun h9 => absurd (nI_pos' (by omega)) h9)
  show gm_V D tc mi_J6_getChars_ba4f3 _ 0 0 11 [some (.int (nI v)), some (.int (nI (n + (lr_dg v).length))), some (.ref va), none, none, some (.int (nI (n + (lr_dg v).length))), none] [] [(va, .inl (tc 5, m, .inl (a)))]
  refine gm_iconst (z := 0) (v := 0) rfl (by decide +kernel) ?_
  refine gm_istore (a := 6) (by decide +kernel) (by decide) rfl (Nat.le_of_ble_eq_true rfl) ?_
  show gm_V D tc mi_J6_getChars_ba4f3 _ 0 0 14 [some (.int (nI v)), some (.int (nI (n + (lr_dg v).length))), some (.ref va), none, none, some (.int (nI (n + (lr_dg v).length))), some (.int 0)] [] [(va, .inl (tc 5, m, .inl (a)))]
  refine gm_iload (a := 6) (by decide +kernel) rfl ?_
  refine gm_if_ne (off := 6) 22 (by decide +kernel) (by decide) (fun h9 => absurd rfl h9) (fun _ => ?_)
  show gm_V D tc mi_J6_getChars_ba4f3 _ 0 0 19 [some (.int (nI v)), some (.int (nI (n + (lr_dg v).length))), some (.ref va), none, none, some (.int (nI (n + (lr_dg v).length))), some (.int 0)] [] [(va, .inl (tc 5, m, .inl (a)))]
  refine gm_iload_n (j := 0) (by decide +kernel) rfl rfl ?_
  refine gm_ineg (by decide +kernel) ?_
  refine gm_istore_n (j := 0) (a := 0) (by decide +kernel) rfl (by decide) rfl (Nat.le_of_ble_eq_true rfl) ?_
  show gm_V D tc mi_J6_getChars_ba4f3 _ 0 0 22 [some (.int (-(nI v))), some (.int (nI (n + (lr_dg v).length))), some (.ref va), none, none, some (.int (nI (n + (lr_dg v).length))), some (.int 0)] [] [(va, .inl (tc 5, m, .inl (a)))]
  show gm_V D tc mi_J6_getChars_ba4f3 _ 0 0 22 [some (.int (-(nI v))), some (.int (nI (n + (lr_dg v).length))), some (.ref va), none, none, some (.int (nI (n + (lr_dg v).length))), some (.int 0)] [] [(va, .inl (tc 5, m, .inl (a)))]
  refine gm_iload_n (j := 0) (by decide +kernel) rfl rfl ?_
  refine gm_bipush (z := -100) (v := -100) rfl (by decide +kernel) ?_
  by_cases h10 : v < 10
  · rw [lr_dg_a h10] at hn ⊢
    have hn : n + 1 ≤ m := hn
    show gm_V D tc mi_J6_getChars_ba4f3 _ 0 0 25 [some (.int (-(nI v))), some (.int (nI (n + 1))), some (.ref va), none, none, some (.int (nI (n + 1))), some (.int 0)] [.int (-100), .int (-(nI v))] [(va, .inl (tc 5, m, .inl (a)))]
    refine gm_icmp_gt (off := 47) 72 (by decide +kernel) (by decide) (fun _ => ?_) (fun h9 => absurd ((sb_nlt (a := 100) (b := v) (by decide) (by omega)).mpr (by omega)) h9)
    show gm_V D tc mi_J6_getChars_ba4f3 _ 0 0 72 [some (.int (-(nI v))), some (.int (nI (n + 1))), some (.ref va), none, none, some (.int (nI (n + 1))), some (.int 0)] [] [(va, .inl (tc 5, m, .inl (a)))]
    refine gm_aload_n (j := 2) (by decide +kernel) rfl rfl ?_
    refine gm_iinc (a := 5) (z := -1) (v := -1) (by decide +kernel) rfl rfl (by decide) rfl (Nat.le_of_ble_eq_true rfl) ?_
    rw [show ((nI (n + 1)) + (-1)) = nI n from (sb_m1 (by omega)).trans (congrArg nI (by omega))]
    show gm_V D tc mi_J6_getChars_ba4f3 _ 0 0 76 [some (.int (-(nI v))), some (.int (nI (n + 1))), some (.ref va), none, none, some (.int (nI n)), some (.int 0)] [.ref va] [(va, .inl (tc 5, m, .inl (a)))]
    refine gm_iload (a := 5) (by decide +kernel) rfl ?_
    refine gm_ones2 (ix := 83) (a := 0) (j := v) (jj := 0) (by omega) (pm_tab (i := 1085) (by decide +kernel) rfl) (by decide +kernel) rfl rfl (Int32.neg_neg) (by decide +kernel) (by decide +kernel) (by decide +kernel) ?_
    refine gm_bast 0 rfl (vp_in_nI (by omega) (by omega)) (by decide +kernel) ?_
    rw [nI_clamp (by omega), sb_v1]
    show gm_V D tc mi_J6_getChars_ba4f3 _ 0 0 85 [some (.int (-(nI v))), some (.int (nI (n + 1))), some (.ref va), none, none, some (.int (nI n)), some (.int 0)] [] [(va, .inl (tc 5, m, .inl (upd (a) n (sb_b (48 + v % 10)))))]
    refine gm_iload_n (j := 0) (by decide +kernel) rfl rfl ?_
    refine gm_bipush (z := -9) (v := -9) rfl (by decide +kernel) ?_
    refine gm_icmp_ge (off := 16) 104 (by decide +kernel) (by decide) (fun _ => ?_) (fun h9 => absurd ((sb_nle (a := 9) (b := v) (by decide) (by omega)).mpr (by omega)) h9)
    show gm_V D tc mi_J6_getChars_ba4f3 _ 0 0 104 [some (.int (-(nI v))), some (.int (nI (n + 1))), some (.ref va), none, none, some (.int (nI n)), some (.int 0)] [] [(va, .inl (tc 5, m, .inl (upd (a) n (sb_b (48 + v % 10)))))]
    refine gm_iload (a := 6) (by decide +kernel) rfl ?_
    refine gm_if_eq (off := 12) 118 (by decide +kernel) (by decide) (fun _ => ?_) (fun h9 => absurd rfl h9)
    show gm_V D tc mi_J6_getChars_ba4f3 _ 0 0 118 [some (.int (-(nI v))), some (.int (nI (n + 1))), some (.ref va), none, none, some (.int (nI n)), some (.int 0)] [] [(va, .inl (tc 5, m, .inl (upd (a) n (sb_b (48 + v % 10)))))]
    refine gm_iload (a := 5) (by decide +kernel) rfl ?_
    exact gm_iret (ty := .int) rfl rfl (by decide) (by decide) (by decide +kernel) ⟨rfl, _, rfl, fun j hj => by rw [pk_un (by omega)], fun i hi => by obtain rfl : i = 0 := (by simpa using hi); exact pk_us, sb_fitU hf (sb_fitB _)⟩
  by_cases h100 : v < 100
  · rw [lr_dg_b h100 h10] at hn ⊢
    have hn : n + 2 ≤ m := hn
    show gm_V D tc mi_J6_getChars_ba4f3 _ 0 0 25 [some (.int (-(nI v))), some (.int (nI (n + 2))), some (.ref va), none, none, some (.int (nI (n + 2))), some (.int 0)] [.int (-100), .int (-(nI v))] [(va, .inl (tc 5, m, .inl (a)))]
    refine gm_icmp_gt (off := 47) 72 (by decide +kernel) (by decide) (fun _ => ?_) (fun h9 => absurd ((sb_nlt (a := 100) (b := v) (by decide) (by omega)).mpr (by omega)) h9)
    show gm_V D tc mi_J6_getChars_ba4f3 _ 0 0 72 [some (.int (-(nI v))), some (.int (nI (n + 2))), some (.ref va), none, none, some (.int (nI (n + 2))), some (.int 0)] [] [(va, .inl (tc 5, m, .inl (a)))]
    refine gm_aload_n (j := 2) (by decide +kernel) rfl rfl ?_
    refine gm_iinc (a := 5) (z := -1) (v := -1) (by decide +kernel) rfl rfl (by decide) rfl (Nat.le_of_ble_eq_true rfl) ?_
    rw [show ((nI (n + 2)) + (-1)) = nI (n + 1) from (sb_m1 (by omega)).trans (congrArg nI (by omega))]
    show gm_V D tc mi_J6_getChars_ba4f3 _ 0 0 76 [some (.int (-(nI v))), some (.int (nI (n + 2))), some (.ref va), none, none, some (.int (nI (n + 1))), some (.int 0)] [.ref va] [(va, .inl (tc 5, m, .inl (a)))]
    refine gm_iload (a := 5) (by decide +kernel) rfl ?_
    refine gm_ones2 (ix := 83) (a := 0) (j := v) (jj := 0) (by omega) (pm_tab (i := 1085) (by decide +kernel) rfl) (by decide +kernel) rfl rfl (Int32.neg_neg) (by decide +kernel) (by decide +kernel) (by decide +kernel) ?_
    refine gm_bast 0 rfl (vp_in_nI (by omega) (by omega)) (by decide +kernel) ?_
    rw [nI_clamp (by omega), sb_v1]
    show gm_V D tc mi_J6_getChars_ba4f3 _ 0 0 85 [some (.int (-(nI v))), some (.int (nI (n + 2))), some (.ref va), none, none, some (.int (nI (n + 1))), some (.int 0)] [] [(va, .inl (tc 5, m, .inl (upd (a) (n + 1) (sb_b (48 + v % 10)))))]
    refine gm_iload_n (j := 0) (by decide +kernel) rfl rfl ?_
    refine gm_bipush (z := -9) (v := -9) rfl (by decide +kernel) ?_
    refine gm_icmp_ge (off := 16) 104 (by decide +kernel) (by decide) (fun h9 => absurd ((sb_nle (a := 9) (b := v) (by decide) (by omega)).mp h9) (by omega)) (fun _ => ?_)
    show gm_V D tc mi_J6_getChars_ba4f3 _ 0 0 91 [some (.int (-(nI v))), some (.int (nI (n + 2))), some (.ref va), none, none, some (.int (nI (n + 1))), some (.int 0)] [] [(va, .inl (tc 5, m, .inl (upd (a) (n + 1) (sb_b (48 + v % 10)))))]
    refine gm_aload_n (j := 2) (by decide +kernel) rfl rfl ?_
    refine gm_iinc (a := 5) (z := -1) (v := -1) (by decide +kernel) rfl rfl (by decide) rfl (Nat.le_of_ble_eq_true rfl) ?_
    rw [show ((nI (n + 1)) + (-1)) = nI n from (sb_m1 (by omega)).trans (congrArg nI (by omega))]
    show gm_V D tc mi_J6_getChars_ba4f3 _ 0 0 95 [some (.int (-(nI v))), some (.int (nI (n + 2))), some (.ref va), none, none, some (.int (nI n)), some (.int 0)] [.ref va] [(va, .inl (tc 5, m, .inl (upd (a) (n + 1) (sb_b (48 + v % 10)))))]
    refine gm_iload (a := 5) (by decide +kernel) rfl ?_
    refine gm_tens2 (ix := 87) (a := 0) (j := v) (jj := 0) (by omega) (pm_tab (i := 1087) (by decide +kernel) rfl) (by decide +kernel) rfl rfl (Int32.neg_neg) (by decide +kernel) (by decide +kernel) (by decide +kernel) ?_
    refine gm_bast 0 rfl (vp_in_nI (by omega) (by omega)) (by decide +kernel) ?_
    rw [nI_clamp (by omega), sb_v1]
    show gm_V D tc mi_J6_getChars_ba4f3 _ 0 0 104 [some (.int (-(nI v))), some (.int (nI (n + 2))), some (.ref va), none, none, some (.int (nI n)), some (.int 0)] [] [(va, .inl (tc 5, m, .inl (upd (upd (a) (n + 1) (sb_b (48 + v % 10))) n (sb_b (48 + v / 10)))))]
    refine gm_iload (a := 6) (by decide +kernel) rfl ?_
    refine gm_if_eq (off := 12) 118 (by decide +kernel) (by decide) (fun _ => ?_) (fun h9 => absurd rfl h9)
    show gm_V D tc mi_J6_getChars_ba4f3 _ 0 0 118 [some (.int (-(nI v))), some (.int (nI (n + 2))), some (.ref va), none, none, some (.int (nI n)), some (.int 0)] [] [(va, .inl (tc 5, m, .inl (upd (upd (a) (n + 1) (sb_b (48 + v % 10))) n (sb_b (48 + v / 10)))))]
    refine gm_iload (a := 5) (by decide +kernel) rfl ?_
    refine gm_iret (ty := .int) rfl rfl (by decide) (by decide) (by decide +kernel) ⟨rfl, _, rfl, fun j hj => by rw [pk_un (by omega), pk_un (by omega)], fun i hi => ?_, sb_fitU (sb_fitU hf (sb_fitB _)) (sb_fitB _)⟩
    obtain rfl | rfl : i = 0 ∨ i = 1 := by have : i < 2 := hi; omega
    · show upd _ n _ n = sb_b (48 + v / 10 % 10)
      rw [pk_us, Nat.mod_eq_of_lt (show v / 10 < 10 by omega)]
    · show upd _ n _ (n + 1) = sb_b (48 + v % 10)
      rw [pk_un (by omega), pk_us]
  rw [lr_dg_c h100] at hn ⊢
  have hn : n + 3 ≤ m := hn
  show gm_V D tc mi_J6_getChars_ba4f3 _ 0 0 25 [some (.int (-(nI v))), some (.int (nI (n + 3))), some (.ref va), none, none, some (.int (nI (n + 3))), some (.int 0)] [.int (-100), .int (-(nI v))] [(va, .inl (tc 5, m, .inl (a)))]
  refine gm_icmp_gt (off := 47) 72 (by decide +kernel) (by decide) (fun h9 => absurd ((sb_nlt (a := 100) (b := v) (by decide) (by omega)).mp h9) (by omega)) (fun _ => ?_)
  show gm_V D tc mi_J6_getChars_ba4f3 _ 0 0 28 [some (.int (-(nI v))), some (.int (nI (n + 3))), some (.ref va), none, none, some (.int (nI (n + 3))), some (.int 0)] [] [(va, .inl (tc 5, m, .inl (a)))]
  refine gm_iload_n (j := 0) (by decide +kernel) rfl rfl ?_
  refine gm_bipush (z := 100) (v := 100) rfl (by decide +kernel) ?_
  refine gm_idiv (by decide) (by decide +kernel) ?_
  rw [sb_ndiv (by omega)]
  refine gm_istore_n (j := 3) (a := 3) (by decide +kernel) rfl (by decide) rfl (Nat.le_of_ble_eq_true rfl) ?_
  show gm_V D tc mi_J6_getChars_ba4f3 _ 0 0 33 [some (.int (-(nI v))), some (.int (nI (n + 3))), some (.ref va), some (.int (-nI (v / 100))), none, some (.int (nI (n + 3))), some (.int 0)] [] [(va, .inl (tc 5, m, .inl (a)))]
  refine gm_iload_n (j := 3) (by decide +kernel) rfl rfl ?_
  refine gm_bipush (z := 100) (v := 100) rfl (by decide +kernel) ?_
  refine gm_imul (by decide +kernel) ?_
  refine gm_iload_n (j := 0) (by decide +kernel) rfl rfl ?_
  refine gm_isub (by decide +kernel) ?_
  rw [sb_nrem (by omega)]
  refine gm_istore (a := 4) (by decide +kernel) (by decide) rfl (Nat.le_of_ble_eq_true rfl) ?_
  show gm_V D tc mi_J6_getChars_ba4f3 _ 0 0 41 [some (.int (-(nI v))), some (.int (nI (n + 3))), some (.ref va), some (.int (-nI (v / 100))), some (.int (nI (v % 100))), some (.int (nI (n + 3))), some (.int 0)] [] [(va, .inl (tc 5, m, .inl (a)))]
  refine gm_iload_n (j := 3) (by decide +kernel) rfl rfl ?_
  refine gm_istore_n (j := 0) (a := 0) (by decide +kernel) rfl (by decide) rfl (Nat.le_of_ble_eq_true rfl) ?_
  show gm_V D tc mi_J6_getChars_ba4f3 _ 0 0 43 [some (.int (-nI (v / 100))), some (.int (nI (n + 3))), some (.ref va), some (.int (-nI (v / 100))), some (.int (nI (v % 100))), some (.int (nI (n + 3))), some (.int 0)] [] [(va, .inl (tc 5, m, .inl (a)))]
  refine gm_aload_n (j := 2) (by decide +kernel) rfl rfl ?_
  refine gm_iinc (a := 5) (z := -1) (v := -1) (by decide +kernel) rfl rfl (by decide) rfl (Nat.le_of_ble_eq_true rfl) ?_
  rw [show ((nI (n + 3)) + (-1)) = nI (n + 2) from (sb_m1 (by omega)).trans (congrArg nI (by omega))]
  show gm_V D tc mi_J6_getChars_ba4f3 _ 0 0 47 [some (.int (-nI (v / 100))), some (.int (nI (n + 3))), some (.ref va), some (.int (-nI (v / 100))), some (.int (nI (v % 100))), some (.int (nI (n + 2))), some (.int 0)] [.ref va] [(va, .inl (tc 5, m, .inl (a)))]
  refine gm_iload (a := 5) (by decide +kernel) rfl ?_
  refine gm_ones1 (ix := 83) (a := 4) (j := v % 100) (by omega) (pm_tab (i := 1085) (by decide +kernel) rfl) (by decide +kernel) rfl rfl (by decide +kernel) (by decide +kernel) ?_
  refine gm_bast 0 rfl (vp_in_nI (by omega) (by omega)) (by decide +kernel) ?_
  rw [nI_clamp (by omega), sb_v1]
  show gm_V D tc mi_J6_getChars_ba4f3 _ 0 0 56 [some (.int (-nI (v / 100))), some (.int (nI (n + 3))), some (.ref va), some (.int (-nI (v / 100))), some (.int (nI (v % 100))), some (.int (nI (n + 2))), some (.int 0)] [] [(va, .inl (tc 5, m, .inl (upd (a) (n + 2) (sb_b (48 + v % 100 % 10)))))]
  refine gm_aload_n (j := 2) (by decide +kernel) rfl rfl ?_
  refine gm_iinc (a := 5) (z := -1) (v := -1) (by decide +kernel) rfl rfl (by decide) rfl (Nat.le_of_ble_eq_true rfl) ?_
  rw [show ((nI (n + 2)) + (-1)) = nI (n + 1) from (sb_m1 (by omega)).trans (congrArg nI (by omega))]
  show gm_V D tc mi_J6_getChars_ba4f3 _ 0 0 60 [some (.int (-nI (v / 100))), some (.int (nI (n + 3))), some (.ref va), some (.int (-nI (v / 100))), some (.int (nI (v % 100))), some (.int (nI (n + 1))), some (.int 0)] [.ref va] [(va, .inl (tc 5, m, .inl (upd (a) (n + 2) (sb_b (48 + v % 100 % 10)))))]
  refine gm_iload (a := 5) (by decide +kernel) rfl ?_
  refine gm_tens1 (ix := 87) (a := 4) (j := v % 100) (by omega) (pm_tab (i := 1087) (by decide +kernel) rfl) (by decide +kernel) rfl rfl (by decide +kernel) (by decide +kernel) ?_
  refine gm_bast 0 rfl (vp_in_nI (by omega) (by omega)) (by decide +kernel) ?_
  rw [nI_clamp (by omega), sb_v1]
  show gm_V D tc mi_J6_getChars_ba4f3 _ 0 0 69 [some (.int (-nI (v / 100))), some (.int (nI (n + 3))), some (.ref va), some (.int (-nI (v / 100))), some (.int (nI (v % 100))), some (.int (nI (n + 1))), some (.int 0)] [] [(va, .inl (tc 5, m, .inl (upd (upd (a) (n + 2) (sb_b (48 + v % 100 % 10))) (n + 1) (sb_b (48 + v % 100 / 10)))))]
  refine gm_goto (off := -47) (tgt := 22) (by decide +kernel) (by decide) ?_
  refine gm_iload_n (j := 0) (by decide +kernel) rfl rfl ?_
  refine gm_bipush (z := -100) (v := -100) rfl (by decide +kernel) ?_
  refine gm_icmp_gt (off := 47) 72 (by decide +kernel) (by decide) (fun _ => ?_) (fun h9 => absurd ((sb_nlt (a := 100) (b := (v / 100)) (by decide) (by omega)).mpr (by omega)) h9)
  show gm_V D tc mi_J6_getChars_ba4f3 _ 0 0 72 [some (.int (-nI (v / 100))), some (.int (nI (n + 3))), some (.ref va), some (.int (-nI (v / 100))), some (.int (nI (v % 100))), some (.int (nI (n + 1))), some (.int 0)] [] [(va, .inl (tc 5, m, .inl (upd (upd (a) (n + 2) (sb_b (48 + v % 100 % 10))) (n + 1) (sb_b (48 + v % 100 / 10)))))]
  refine gm_aload_n (j := 2) (by decide +kernel) rfl rfl ?_
  refine gm_iinc (a := 5) (z := -1) (v := -1) (by decide +kernel) rfl rfl (by decide) rfl (Nat.le_of_ble_eq_true rfl) ?_
  rw [show ((nI (n + 1)) + (-1)) = nI n from (sb_m1 (by omega)).trans (congrArg nI (by omega))]
  show gm_V D tc mi_J6_getChars_ba4f3 _ 0 0 76 [some (.int (-nI (v / 100))), some (.int (nI (n + 3))), some (.ref va), some (.int (-nI (v / 100))), some (.int (nI (v % 100))), some (.int (nI n)), some (.int 0)] [.ref va] [(va, .inl (tc 5, m, .inl (upd (upd (a) (n + 2) (sb_b (48 + v % 100 % 10))) (n + 1) (sb_b (48 + v % 100 / 10)))))]
  refine gm_iload (a := 5) (by decide +kernel) rfl ?_
  refine gm_ones2 (ix := 83) (a := 0) (j := (v / 100)) (jj := 0) (by omega) (pm_tab (i := 1085) (by decide +kernel) rfl) (by decide +kernel) rfl rfl (Int32.neg_neg) (by decide +kernel) (by decide +kernel) (by decide +kernel) ?_
  refine gm_bast 0 rfl (vp_in_nI (by omega) (by omega)) (by decide +kernel) ?_
  rw [nI_clamp (by omega), sb_v1]
  show gm_V D tc mi_J6_getChars_ba4f3 _ 0 0 85 [some (.int (-nI (v / 100))), some (.int (nI (n + 3))), some (.ref va), some (.int (-nI (v / 100))), some (.int (nI (v % 100))), some (.int (nI n)), some (.int 0)] [] [(va, .inl (tc 5, m, .inl (upd (upd (upd (a) (n + 2) (sb_b (48 + v % 100 % 10))) (n + 1) (sb_b (48 + v % 100 / 10))) n (sb_b (48 + (v / 100) % 10)))))]
  refine gm_iload_n (j := 0) (by decide +kernel) rfl rfl ?_
  refine gm_bipush (z := -9) (v := -9) rfl (by decide +kernel) ?_
  refine gm_icmp_ge (off := 16) 104 (by decide +kernel) (by decide) (fun _ => ?_) (fun h9 => absurd ((sb_nle (a := 9) (b := (v / 100)) (by decide) (by omega)).mpr (by omega)) h9)
  show gm_V D tc mi_J6_getChars_ba4f3 _ 0 0 104 [some (.int (-nI (v / 100))), some (.int (nI (n + 3))), some (.ref va), some (.int (-nI (v / 100))), some (.int (nI (v % 100))), some (.int (nI n)), some (.int 0)] [] [(va, .inl (tc 5, m, .inl (upd (upd (upd (a) (n + 2) (sb_b (48 + v % 100 % 10))) (n + 1) (sb_b (48 + v % 100 / 10))) n (sb_b (48 + (v / 100) % 10)))))]
  refine gm_iload (a := 6) (by decide +kernel) rfl ?_
  refine gm_if_eq (off := 12) 118 (by decide +kernel) (by decide) (fun _ => ?_) (fun h9 => absurd rfl h9)
  show gm_V D tc mi_J6_getChars_ba4f3 _ 0 0 118 [some (.int (-nI (v / 100))), some (.int (nI (n + 3))), some (.ref va), some (.int (-nI (v / 100))), some (.int (nI (v % 100))), some (.int (nI n)), some (.int 0)] [] [(va, .inl (tc 5, m, .inl (upd (upd (upd (a) (n + 2) (sb_b (48 + v % 100 % 10))) (n + 1) (sb_b (48 + v % 100 / 10))) n (sb_b (48 + (v / 100) % 10)))))]
  refine gm_iload (a := 5) (by decide +kernel) rfl ?_
  refine gm_iret (ty := .int) rfl rfl (by decide) (by decide) (by decide +kernel) ⟨rfl, _, rfl, fun j hj => by rw [pk_un (by omega), pk_un (by omega), pk_un (by omega)], fun i hi => ?_, sb_fitU (sb_fitU (sb_fitU hf (sb_fitB _)) (sb_fitB _)) (sb_fitB _)⟩
  obtain rfl | rfl | rfl : i = 0 ∨ i = 1 ∨ i = 2 := by have : i < 3 := hi; omega
  · show upd _ n _ n = sb_b (48 + v / 100)
    rw [pk_us, Nat.mod_eq_of_lt (show v / 100 < 10 by omega)]
  · show upd _ n _ (n + 1) = sb_b (48 + v / 10 % 10)
    rw [pk_un (by omega), pk_us, show v % 100 / 10 = v / 10 % 10 by omega]
  · show upd _ n _ (n + 2) = sb_b (48 + v % 10)
    rw [pk_un (by omega), pk_un (by omega), pk_us, show v % 100 % 10 = v % 10 by omega]
set_option maxHeartbeats 4000000 in
set_option maxRecDepth 100000 in
theorem c_J5_append_3fe6f (D : va_G) (tc : Nat → ClassId) {L : List Nat} (b va m : Nat) {a : Nat → Int32} (hI : sb_I L m a) {c : Nat} (hc : c < 256) (hl : L.length + 1 ≤ 34) : gm_CT D tc mi_J5_append_3fe6f [.ref b, .int (nI c)] (sb_w tc b va L.length m a) (fun r u => r = some (.ref b) ∧ ∃ v2 m2 a2, u = sb_w tc b v2 (L ++ [c]).length m2 a2 ∧ sb_I (L ++ [c]) m2 a2) := by
  refine gm_CT_of (lo := [some (.ref b), some (.int (nI c))]) (by decide +kernel) rfl rfl (by intro v hv; simp at hv; rcases hv with rfl | rfl <;> first | rfl | assumption) (Nat.le_of_ble_eq_true rfl) rfl ?_
  refine gm_aload_n (j := 0) (by decide +kernel) rfl rfl ?_
  refine gm_aload_n (j := 0) (by decide +kernel) rfl rfl ?_
  refine gm_get (ix := 79) (ci := 11) (N := 4) (C := RJ4) (T := TJ4) (v := .int (nI L.length)) 0 3 sb_cf rfl rfl (by decide) (pm_tab (i := 971) (by decide +kernel) rfl) rfl (by decide +kernel) ?_
  refine gm_iconst (z := 1) (v := 1) rfl (by decide +kernel) ?_
  refine gm_iadd (by decide +kernel) ?_
  rw [nI_1]
  refine gm_callU (ix := 100) mi_J5_ensureCapacityInternal_d00df (b := b) (n := 1) (As := [.int (nI (L.length + 1))]) (rest := []) (wc := [(b, .inr (11, [.ref va, .int 0, .int 0, .int (nI L.length)])), (va, .inl (tc 5, m, .inl a))]) (wr := []) (kc2 := 1) (ks2 := 34) (c_J5_ensureCapacityInternal_d00df D tc b va m hI hl) (ci := 11) (q0 := 0) rfl rfl rfl cal_J5_ensureCapacityInternal_d00df (pm_tab (i := 990) (by decide +kernel) rfl) (pm_tab (i := 1654) (by decide +kernel) rfl) (pm_sb_in (by unfold pm_sbs; simp) rfl) (pm_tab (i := 988) (by decide +kernel) rfl) (by decide +kernel) (by decide +kernel) rfl rfl (Nat.le_of_ble_eq_true rfl) (by decide) (by decide) ?_
  rintro _ _ ⟨rfl, v2, m2, a2, rfl, hI2, hq⟩
  show gm_V D tc mi_J5_append_3fe6f _ 1 34 10 [some (.ref b), some (.int (nI c))] [] [(b, .inr (11, [.ref v2, .int 0, .int 0, .int (nI L.length)])), (v2, .inl (tc 5, m2, .inl a2))]
  obtain ⟨i1, i2, i3, i4⟩ := id hI2
  refine gm_aload_n (j := 0) (by decide +kernel) rfl rfl ?_
  refine gm_callU (ix := 83) mi_J5_isLatin1_aae02 (b := b) (n := 0) (As := []) (rest := []) (wc := [(b, .inr (11, [.ref v2, .int 0, .int 0, .int (nI L.length)])), (v2, .inl (tc 5, m2, .inl a2))]) (wr := []) (kc2 := 1) (ks2 := 34) (c_J5_isLatin1_aae02 D tc b v2 L.length m2 a2) (ci := 11) (q0 := 0) rfl rfl rfl cal_J5_isLatin1_aae02 (pm_tab (i := 1020) (by decide +kernel) rfl) (pm_tab (i := 1021) (by decide +kernel) rfl) (pm_tab (i := 1022) (by decide +kernel) rfl) (pm_tab (i := 1019) (by decide +kernel) rfl) (by decide +kernel) (by decide +kernel) rfl rfl (Nat.le_of_ble_eq_true rfl) (by decide) (by decide) ?_
  rintro _ _ ⟨rfl, rfl⟩
  show gm_V D tc mi_J5_append_3fe6f _ 1 34 14 [some (.ref b), some (.int (nI c))] [.int 1] [(b, .inr (11, [.ref v2, .int 0, .int 0, .int (nI L.length)])), (v2, .inl (tc 5, m2, .inl a2))]
  refine gm_if_eq (off := 31) 45 (by decide +kernel) (by decide) (fun h9 => absurd h9 (by decide)) (fun _ => ?_)
  show gm_V D tc mi_J5_append_3fe6f _ 1 34 17 [some (.ref b), some (.int (nI c))] [] [(b, .inr (11, [.ref v2, .int 0, .int 0, .int (nI L.length)])), (v2, .inl (tc 5, m2, .inl a2))]
  refine gm_iload_n (j := 1) (by decide +kernel) rfl rfl ?_
  refine gm_callS (ix := 191) mi_J1_canEncode_fc78d (n := 1) (As := [.int (nI c)]) (rest := []) (wc := []) (wr := [(b, .inr (11, [.ref v2, .int 0, .int 0, .int (nI L.length)])), (v2, .inl (tc 5, m2, .inl a2))]) (kc2 := 1) (ks2 := 34) (c_J1_canEncode_fc78d D tc hc) rfl cal_J1_canEncode_fc78d (pm_tab (i := 1025) (by decide +kernel) rfl) (pm_tab (i := 1024) (by decide +kernel) rfl) (by decide +kernel) (by decide +kernel) rfl rfl (Nat.le_of_ble_eq_true rfl) (by decide) (by decide) ?_
  rintro _ _ ⟨rfl, rfl⟩
  show gm_V D tc mi_J5_append_3fe6f _ 1 34 21 [some (.ref b), some (.int (nI c))] [.int 1] [(b, .inr (11, [.ref v2, .int 0, .int 0, .int (nI L.length)])), (v2, .inl (tc 5, m2, .inl a2))]
  refine gm_if_eq (off := 24) 45 (by decide +kernel) (by decide) (fun h9 => absurd h9 (by decide)) (fun _ => ?_)
  show gm_V D tc mi_J5_append_3fe6f _ 1 34 24 [some (.ref b), some (.int (nI c))] [] [(b, .inr (11, [.ref v2, .int 0, .int 0, .int (nI L.length)])), (v2, .inl (tc 5, m2, .inl a2))]
  refine gm_aload_n (j := 0) (by decide +kernel) rfl rfl ?_
  refine gm_get (ix := 15) (ci := 11) (N := 4) (C := RJ4) (T := TJ4) (v := .ref v2) 0 0 sb_cf rfl rfl (by decide) (pm_tab (i := 969) (by decide +kernel) rfl) rfl (by decide +kernel) ?_
  refine gm_aload_n (j := 0) (by decide +kernel) rfl rfl ?_
  refine gm_dup rfl (by decide +kernel) ?_
  refine gm_get (ix := 79) (ci := 11) (N := 4) (C := RJ4) (T := TJ4) (v := .int (nI L.length)) 0 3 sb_cf rfl rfl (by decide) (pm_tab (i := 971) (by decide +kernel) rfl) rfl (by decide +kernel) ?_
  refine gm_dup_x1 rfl rfl (by decide +kernel) ?_
  refine gm_iconst (z := 1) (v := 1) rfl (by decide +kernel) ?_
  refine gm_iadd (by decide +kernel) ?_
  rw [nI_1]
  refine gm_put (ix := 79) (ci := 11) (N := 4) (C := RJ4) (T := TJ4) (ty := .int) 0 3 sb_cf rfl rfl (by decide) (pm_tab (i := 971) (by decide +kernel) rfl) rfl (by decide +kernel) rfl rfl (Nat.le_of_ble_eq_true rfl) (by decide +kernel) ?_
  show gm_V D tc mi_J5_append_3fe6f _ 1 34 39 [some (.ref b), some (.int (nI c))] [.int (nI L.length), .ref v2] [(b, .inr (11, [.ref v2, .int 0, .int 0, .int (nI (L.length + 1))])), (v2, .inl (tc 5, m2, .inl a2))]
  refine gm_iload_n (j := 1) (by decide +kernel) rfl rfl ?_
  refine gm_i2b (by decide +kernel) ?_
  refine gm_bast 1 rfl (vp_in_nI (by omega) (by omega)) (by decide +kernel) ?_
  rw [nI_clamp (by omega)]
  rw [show vp_nar .byte (nI c).toInt8.toInt32 = sb_b c from sb_v2 c]
  show gm_V D tc mi_J5_append_3fe6f _ 1 34 42 [some (.ref b), some (.int (nI c))] [] [(b, .inr (11, [.ref v2, .int 0, .int 0, .int (nI (L.length + 1))])), (v2, .inl (tc 5, m2, .inl (upd a2 L.length (sb_b c))))]
  refine gm_goto (off := 33) (tgt := 75) (by decide +kernel) (by decide) ?_
  refine gm_aload_n (j := 0) (by decide +kernel) rfl rfl ?_
  exact gm_aret rfl (Or.inl ⟨_, rfl⟩) (by decide) (by decide) (by decide +kernel) ⟨rfl, v2, m2, upd a2 L.length (sb_b c), by rw [List.length_append]; rfl, hI2.app (fun j hj => pk_un (by omega)) (fun i hi => by obtain rfl : i = 0 := (by simpa using hi); exact ⟨hc, pk_us⟩) (sb_fitU i2 (sb_fitB _)) hq⟩
set_option maxHeartbeats 4000000 in
set_option maxRecDepth 100000 in
theorem c_J4_append_cf468 (D : va_G) (tc : Nat → ClassId) {L : List Nat} (b va m : Nat) {a : Nat → Int32} (hI : sb_I L m a) {c : Nat} (hc : c < 256) (hl : L.length + 1 ≤ 34) : gm_CT D tc mi_J4_append_cf468 [.ref b, .int (nI c)] (sb_w tc b va L.length m a) (fun r u => r = some (.ref b) ∧ ∃ v2 m2 a2, u = sb_w tc b v2 (L ++ [c]).length m2 a2 ∧ sb_I (L ++ [c]) m2 a2) := by
  refine gm_CT_of (lo := [some (.ref b), some (.int (nI c))]) (by decide +kernel) rfl rfl (by intro v hv; simp at hv; rcases hv with rfl | rfl <;> first | rfl | assumption) (Nat.le_of_ble_eq_true rfl) rfl ?_
  refine gm_aload_n (j := 0) (by decide +kernel) rfl rfl ?_
  refine gm_iload_n (j := 1) (by decide +kernel) rfl rfl ?_
  refine gm_callSU (ix := 50) mi_J5_append_3fe6f (b := b) (n := 1) (As := [.int (nI c)]) (rest := []) (wc := [(b, .inr (11, [.ref va, .int 0, .int 0, .int (nI L.length)])), (va, .inl (tc 5, m, .inl a))]) (wr := []) (kc2 := 1) (ks2 := 34) (c_J5_append_3fe6f D tc b va m hI hc hl) (ci := 11) (q0 := 0) rfl rfl rfl cal_J5_append_3fe6f (pm_tab (i := 986) (by decide +kernel) rfl) (pm_tab (i := 1653) (by decide +kernel) rfl) (pm_tab (i := 980) (by decide +kernel) rfl) (by decide +kernel) (pm_tab (i := 985) (by decide +kernel) rfl) (by decide +kernel) (by decide +kernel) rfl rfl (Nat.le_of_ble_eq_true rfl) (by decide) (by decide) ?_
  rintro _ _ ⟨rfl, v2, m2, a2, rfl, hI2⟩
  show gm_V D tc mi_J4_append_cf468 _ 1 34 5 [some (.ref b), some (.int (nI c))] [.ref b] [(b, .inr (11, [.ref v2, .int 0, .int 0, .int (nI ((L ++ [c]).length))])), (v2, .inl (tc 5, m2, .inl a2))]
  refine gm_pop rfl (by decide +kernel) ?_
  refine gm_aload_n (j := 0) (by decide +kernel) rfl rfl ?_
  exact gm_aret rfl (Or.inl ⟨_, rfl⟩) (by decide) (by decide) (by decide +kernel) ⟨rfl, v2, m2, a2, rfl, hI2⟩
set_option maxHeartbeats 4000000 in
set_option maxRecDepth 100000 in
theorem c_J5_append_c97b9 (D : va_G) (tc : Nat → ClassId) {L : List Nat} (b va m : Nat) {a : Nat → Int32} (hI : sb_I L m a) {c : Nat} (hc : c < 1000) (hl : L.length + (lr_dg c).length ≤ 34) : gm_CT D tc mi_J5_append_c97b9 [.ref b, .int (nI c)] (sb_w tc b va L.length m a) (fun r u => r = some (.ref b) ∧ ∃ v2 m2 a2, u = sb_w tc b v2 (L ++ lr_dg c).length m2 a2 ∧ sb_I (L ++ lr_dg c) m2 a2) := by
  refine gm_CT_of (lo := [some (.ref b), some (.int (nI c)), none, none]) (by decide +kernel) rfl rfl (by intro v hv; simp at hv; rcases hv with rfl | rfl <;> first | rfl | assumption) (Nat.le_of_ble_eq_true rfl) rfl ?_
  refine gm_aload_n (j := 0) (by decide +kernel) rfl rfl ?_
  refine gm_get (ix := 79) (ci := 11) (N := 4) (C := RJ4) (T := TJ4) (v := .int (nI L.length)) 0 3 sb_cf rfl rfl (by decide) (pm_tab (i := 971) (by decide +kernel) rfl) rfl (by decide +kernel) ?_
  refine gm_istore_n (j := 2) (a := 2) (by decide +kernel) rfl (by decide) rfl (Nat.le_of_ble_eq_true rfl) ?_
  show gm_V D tc mi_J5_append_c97b9 _ 0 0 5 [some (.ref b), some (.int (nI c)), some (.int (nI L.length)), none] [] [(b, .inr (11, [.ref va, .int 0, .int 0, .int (nI L.length)])), (va, .inl (tc 5, m, .inl a))]
  refine gm_iload_n (j := 2) (by decide +kernel) rfl rfl ?_
  refine gm_iload_n (j := 1) (by decide +kernel) rfl rfl ?_
  refine gm_callS (ix := 245) mi_J6_stringSize_0f7a4 (n := 1) (As := [.int (nI c)]) (rest := [.int (nI L.length)]) (wc := []) (wr := [(b, .inr (11, [.ref va, .int 0, .int 0, .int (nI L.length)])), (va, .inl (tc 5, m, .inl a))]) (kc2 := 0) (ks2 := 0) (c_J6_stringSize_0f7a4 D tc hc) rfl cal_J6_stringSize_0f7a4 (pm_tab (i := 1080) (by decide +kernel) rfl) (pm_tab (i := 1079) (by decide +kernel) rfl) (by decide +kernel) (by decide +kernel) rfl rfl (Nat.le_of_ble_eq_true rfl) (by decide) (by decide) ?_
  rintro _ _ ⟨rfl, rfl⟩
  show gm_V D tc mi_J5_append_c97b9 _ 0 0 10 [some (.ref b), some (.int (nI c)), some (.int (nI L.length)), none] [.int (nI (lr_dg c).length), .int (nI L.length)] [(b, .inr (11, [.ref va, .int 0, .int 0, .int (nI L.length)])), (va, .inl (tc 5, m, .inl a))]
  refine gm_iadd (by decide +kernel) ?_
  rw [nI_add]
  refine gm_istore_n (j := 3) (a := 3) (by decide +kernel) rfl (by decide) rfl (Nat.le_of_ble_eq_true rfl) ?_
  show gm_V D tc mi_J5_append_c97b9 _ 0 0 12 [some (.ref b), some (.int (nI c)), some (.int (nI L.length)), some (.int (nI (L.length + (lr_dg c).length)))] [] [(b, .inr (11, [.ref va, .int 0, .int 0, .int (nI L.length)])), (va, .inl (tc 5, m, .inl a))]
  refine gm_aload_n (j := 0) (by decide +kernel) rfl rfl ?_
  refine gm_iload_n (j := 3) (by decide +kernel) rfl rfl ?_
  refine gm_callU (ix := 100) mi_J5_ensureCapacityInternal_d00df (b := b) (n := 1) (As := [.int (nI (L.length + (lr_dg c).length))]) (rest := []) (wc := [(b, .inr (11, [.ref va, .int 0, .int 0, .int (nI L.length)])), (va, .inl (tc 5, m, .inl a))]) (wr := []) (kc2 := 1) (ks2 := 34) (c_J5_ensureCapacityInternal_d00df D tc b va m hI hl) (ci := 11) (q0 := 0) rfl rfl rfl cal_J5_ensureCapacityInternal_d00df (pm_tab (i := 990) (by decide +kernel) rfl) (pm_tab (i := 1654) (by decide +kernel) rfl) (pm_sb_in (by unfold pm_sbs; simp) rfl) (pm_tab (i := 988) (by decide +kernel) rfl) (by decide +kernel) (by decide +kernel) rfl rfl (Nat.le_of_ble_eq_true rfl) (by decide) (by decide) ?_
  rintro _ _ ⟨rfl, v2, m2, a2, rfl, hI2, hq⟩
  show gm_V D tc mi_J5_append_c97b9 _ 1 34 17 [some (.ref b), some (.int (nI c)), some (.int (nI L.length)), some (.int (nI (L.length + (lr_dg c).length)))] [] [(b, .inr (11, [.ref v2, .int 0, .int 0, .int (nI L.length)])), (v2, .inl (tc 5, m2, .inl a2))]
  obtain ⟨i1, i2, i3, i4⟩ := id hI2
  refine gm_aload_n (j := 0) (by decide +kernel) rfl rfl ?_
  refine gm_callU (ix := 83) mi_J5_isLatin1_aae02 (b := b) (n := 0) (As := []) (rest := []) (wc := [(b, .inr (11, [.ref v2, .int 0, .int 0, .int (nI L.length)])), (v2, .inl (tc 5, m2, .inl a2))]) (wr := []) (kc2 := 1) (ks2 := 34) (c_J5_isLatin1_aae02 D tc b v2 L.length m2 a2) (ci := 11) (q0 := 0) rfl rfl rfl cal_J5_isLatin1_aae02 (pm_tab (i := 1020) (by decide +kernel) rfl) (pm_tab (i := 1021) (by decide +kernel) rfl) (pm_tab (i := 1022) (by decide +kernel) rfl) (pm_tab (i := 1019) (by decide +kernel) rfl) (by decide +kernel) (by decide +kernel) rfl rfl (Nat.le_of_ble_eq_true rfl) (by decide) (by decide) ?_
  rintro _ _ ⟨rfl, rfl⟩
  show gm_V D tc mi_J5_append_c97b9 _ 1 34 21 [some (.ref b), some (.int (nI c)), some (.int (nI L.length)), some (.int (nI (L.length + (lr_dg c).length)))] [.int 1] [(b, .inr (11, [.ref v2, .int 0, .int 0, .int (nI L.length)])), (v2, .inl (tc 5, m2, .inl a2))]
  refine gm_if_eq (off := 16) 37 (by decide +kernel) (by decide) (fun h9 => absurd h9 (by decide)) (fun _ => ?_)
  show gm_V D tc mi_J5_append_c97b9 _ 1 34 24 [some (.ref b), some (.int (nI c)), some (.int (nI L.length)), some (.int (nI (L.length + (lr_dg c).length)))] [] [(b, .inr (11, [.ref v2, .int 0, .int 0, .int (nI L.length)])), (v2, .inl (tc 5, m2, .inl a2))]
  refine gm_iload_n (j := 1) (by decide +kernel) rfl rfl ?_
  refine gm_iload_n (j := 3) (by decide +kernel) rfl rfl ?_
  refine gm_aload_n (j := 0) (by decide +kernel) rfl rfl ?_
  refine gm_get (ix := 15) (ci := 11) (N := 4) (C := RJ4) (T := TJ4) (v := .ref v2) 0 0 sb_cf rfl rfl (by decide) (pm_tab (i := 969) (by decide +kernel) rfl) rfl (by decide +kernel) ?_
  refine gm_V.sub (ws' := [(v2, .inl (tc 5, m2, .inl a2)), (b, .inr (11, [.ref v2, .int 0, .int 0, .int (nI L.length)]))]) [1, 0] (by decide) rfl ?_
  refine gm_callS (ix := 248) mi_J6_getChars_ba4f3 (n := 3) (As := [.int (nI c), .int (nI (L.length + (lr_dg c).length)), .ref v2]) (rest := []) (wc := [(v2, .inl (tc 5, m2, .inl a2))]) (wr := [(b, .inr (11, [.ref v2, .int 0, .int 0, .int (nI L.length)]))]) (kc2 := 1) (ks2 := 34) (c_J6_getChars_ba4f3 D tc v2 hc (by omega) hq i2) rfl cal_J6_getChars_ba4f3 (pm_tab (i := 1083) (by decide +kernel) rfl) (pm_tab (i := 1082) (by decide +kernel) rfl) (by decide +kernel) (by decide +kernel) rfl rfl (Nat.le_of_ble_eq_true rfl) (by decide) (by decide) ?_
  rintro _ _ ⟨rfl, a3, rfl, e1, e2, e3⟩
  show gm_V D tc mi_J5_append_c97b9 _ 1 34 33 [some (.ref b), some (.int (nI c)), some (.int (nI L.length)), some (.int (nI (L.length + (lr_dg c).length)))] [.int (nI L.length)] [(v2, .inl (tc 5, m2, .inl a3)), (b, .inr (11, [.ref v2, .int 0, .int 0, .int (nI L.length)]))]
  refine gm_pop rfl (by decide +kernel) ?_
  refine gm_goto (off := 14) (tgt := 48) (by decide +kernel) (by decide) ?_
  refine gm_aload_n (j := 0) (by decide +kernel) rfl rfl ?_
  refine gm_iload_n (j := 3) (by decide +kernel) rfl rfl ?_
  refine gm_put (ix := 79) (ci := 11) (N := 4) (C := RJ4) (T := TJ4) (ty := .int) 1 3 sb_cf rfl rfl (by decide) (pm_tab (i := 971) (by decide +kernel) rfl) rfl (by decide +kernel) rfl rfl (Nat.le_of_ble_eq_true rfl) (by decide +kernel) ?_
  show gm_V D tc mi_J5_append_c97b9 _ 1 34 53 [some (.ref b), some (.int (nI c)), some (.int (nI L.length)), some (.int (nI (L.length + (lr_dg c).length)))] [] [(v2, .inl (tc 5, m2, .inl a3)), (b, .inr (11, [.ref v2, .int 0, .int 0, .int (nI (L.length + (lr_dg c).length))]))]
  refine gm_V.sub (ws' := sb_w tc b v2 (L.length + (lr_dg c).length) m2 a3) [1, 0] (by decide) rfl ?_
  show gm_V D tc mi_J5_append_c97b9 _ 1 34 53 [some (.ref b), some (.int (nI c)), some (.int (nI L.length)), some (.int (nI (L.length + (lr_dg c).length)))] [] [(b, .inr (11, [.ref v2, .int 0, .int 0, .int (nI (L.length + (lr_dg c).length))])), (v2, .inl (tc 5, m2, .inl a3))]
  refine gm_aload_n (j := 0) (by decide +kernel) rfl rfl ?_
  exact gm_aret rfl (Or.inl ⟨_, rfl⟩) (by decide) (by decide) (by decide +kernel) ⟨rfl, v2, m2, a3, by rw [List.length_append], hI2.app e1 (fun i hi => ⟨lr_dg_lt hc i hi, e2 i hi⟩) e3 hq⟩
set_option maxHeartbeats 4000000 in
set_option maxRecDepth 100000 in
theorem c_J4_append_bf812 (D : va_G) (tc : Nat → ClassId) {L : List Nat} (b va m : Nat) {a : Nat → Int32} (hI : sb_I L m a) {c : Nat} (hc : c < 1000) (hl : L.length + (lr_dg c).length ≤ 34) : gm_CT D tc mi_J4_append_bf812 [.ref b, .int (nI c)] (sb_w tc b va L.length m a) (fun r u => r = some (.ref b) ∧ ∃ v2 m2 a2, u = sb_w tc b v2 (L ++ lr_dg c).length m2 a2 ∧ sb_I (L ++ lr_dg c) m2 a2) := by
  refine gm_CT_of (lo := [some (.ref b), some (.int (nI c))]) (by decide +kernel) rfl rfl (by intro v hv; simp at hv; rcases hv with rfl | rfl <;> first | rfl | assumption) (Nat.le_of_ble_eq_true rfl) rfl ?_
  refine gm_aload_n (j := 0) (by decide +kernel) rfl rfl ?_
  refine gm_iload_n (j := 1) (by decide +kernel) rfl rfl ?_
  refine gm_callSU (ix := 53) mi_J5_append_c97b9 (b := b) (n := 1) (As := [.int (nI c)]) (rest := []) (wc := [(b, .inr (11, [.ref va, .int 0, .int 0, .int (nI L.length)])), (va, .inl (tc 5, m, .inl a))]) (wr := []) (kc2 := 1) (ks2 := 34) (c_J5_append_c97b9 D tc b va m hI hc hl) (ci := 11) (q0 := 0) rfl rfl rfl cal_J5_append_c97b9 (pm_tab (i := 1077) (by decide +kernel) rfl) (pm_tab (i := 1657) (by decide +kernel) rfl) (pm_tab (i := 980) (by decide +kernel) rfl) (by decide +kernel) (pm_tab (i := 1076) (by decide +kernel) rfl) (by decide +kernel) (by decide +kernel) rfl rfl (Nat.le_of_ble_eq_true rfl) (by decide) (by decide) ?_
  rintro _ _ ⟨rfl, v2, m2, a2, rfl, hI2⟩
  show gm_V D tc mi_J4_append_bf812 _ 1 34 5 [some (.ref b), some (.int (nI c))] [.ref b] [(b, .inr (11, [.ref v2, .int 0, .int 0, .int (nI ((L ++ lr_dg c).length))])), (v2, .inl (tc 5, m2, .inl a2))]
  refine gm_pop rfl (by decide +kernel) ?_
  refine gm_aload_n (j := 0) (by decide +kernel) rfl rfl ?_
  exact gm_aret rfl (Or.inl ⟨_, rfl⟩) (by decide) (by decide) (by decide +kernel) ⟨rfl, v2, m2, a2, rfl, hI2⟩
set_option maxHeartbeats 4000000 in
set_option maxRecDepth 100000 in
theorem c_J5_init_d00df (D : va_G) (tc : Nat → ClassId) (b : Nat) : gm_CT D tc mi_J5_init_d00df [.ref b, .int 16] [(b, .inr (11, [.null, .int 0, .int 0, .int 0]))] (fun r u => r = none ∧ ∃ va, u = sb_w tc b va 0 16 (fun _ => 0)) := by
  refine gm_CT_of (lo := [some (.ref b), some (.int 16)]) (by decide +kernel) rfl rfl (by intro v hv; simp at hv; rcases hv with rfl | rfl <;> first | rfl | assumption) (Nat.le_of_ble_eq_true rfl) rfl ?_
  refine gm_aload_n (j := 0) (by decide +kernel) rfl rfl ?_
  refine gm_objInit (ix := 3) (pm_tab (i := 959) (by decide +kernel) rfl) (by decide) (by decide) (by decide +kernel) ?_
  refine gm_compact (ix := 18) (pm_tab (i := 960) (by decide +kernel) rfl) (by decide +kernel) ?_
  refine gm_if_eq (off := 18) 25 (by decide +kernel) (by decide) (fun h9 => absurd h9 (by decide)) (fun _ => ?_)
  show gm_V D tc mi_J5_init_d00df _ 0 0 10 [some (.ref b), some (.int 16)] [] [(b, .inr (11, [.null, .int 0, .int 0, .int 0]))]
  refine gm_aload_n (j := 0) (by decide +kernel) rfl rfl ?_
  refine gm_iload_n (j := 1) (by decide +kernel) rfl rfl ?_
  refine gm_newa_byte (N := 16) (by decide) (by decide) (by decide) (by decide) (by decide) (by decide +kernel) (fun va => ?_)
  show gm_V D tc mi_J5_init_d00df _ 1 16 14 [some (.ref b), some (.int 16)] [.ref va, .ref b] [(b, .inr (11, [.null, .int 0, .int 0, .int 0])), (va, .inl (tc 5, 16, .inl (fun _ => 0)))]
  refine gm_put (ix := 15) (ci := 11) (N := 4) (C := RJ4) (T := TJ4) (ty := .array .byte) 0 0 sb_cf rfl rfl (by decide) (pm_tab (i := 969) (by decide +kernel) rfl) rfl (by decide +kernel) rfl rfl (Nat.le_of_ble_eq_true rfl) (by decide +kernel) ?_
  show gm_V D tc mi_J5_init_d00df _ 1 16 17 [some (.ref b), some (.int 16)] [] [(b, .inr (11, [.ref va, .int 0, .int 0, .int 0])), (va, .inl (tc 5, 16, .inl (fun _ => 0)))]
  refine gm_aload_n (j := 0) (by decide +kernel) rfl rfl ?_
  refine gm_iconst (z := 0) (v := 0) rfl (by decide +kernel) ?_
  refine gm_put (ix := 22) (ci := 11) (N := 4) (C := RJ4) (T := TJ4) (ty := .byte) 0 1 sb_cf rfl rfl (by decide) (pm_tab (i := 970) (by decide +kernel) rfl) rfl (by decide +kernel) rfl rfl (Nat.le_of_ble_eq_true rfl) (by decide +kernel) ?_
  show gm_V D tc mi_J5_init_d00df _ 1 16 22 [some (.ref b), some (.int 16)] [] [(b, .inr (11, [.ref va, .int 0, .int 0, .int 0])), (va, .inl (tc 5, 16, .inl (fun _ => 0)))]
  refine gm_goto (off := 16) (tgt := 38) (by decide +kernel) (by decide) ?_
  exact gm_vret rfl (by decide) (by decide) (by decide +kernel) ⟨rfl, va, rfl⟩
set_option maxHeartbeats 4000000 in
set_option maxRecDepth 100000 in
theorem c_J4_init_da8c8 (D : va_G) (tc : Nat → ClassId) (b : Nat) : gm_CT D tc mi_J4_init_da8c8 [.ref b] [(b, .inr (11, [.null, .int 0, .int 0, .int 0]))] (fun r u => r = none ∧ ∃ va, u = sb_w tc b va 0 16 (fun _ => 0)) := by
  refine gm_CT_of (lo := [some (.ref b)]) (by decide +kernel) rfl rfl (by intro v hv; simp at hv; rcases hv with rfl <;> first | rfl | assumption) (Nat.le_of_ble_eq_true rfl) rfl ?_
  refine gm_aload_n (j := 0) (by decide +kernel) rfl rfl ?_
  refine gm_bipush (z := 16) (v := 16) rfl (by decide +kernel) ?_
  refine gm_callI (ix := 1) mi_J5_init_d00df (b := b) (n := 1) (As := [.int 16]) (rest := []) (wc := [(b, .inr (11, [.null, .int 0, .int 0, .int 0]))]) (wr := []) (kc2 := 1) (ks2 := 16) (c_J5_init_d00df D tc b) rfl cal_J5_init_d00df (pm_tab (i := 957) (by decide +kernel) rfl) rfl rfl (pm_tab (i := 956) (by decide +kernel) rfl) (by decide +kernel) (by decide +kernel) rfl rfl (Nat.le_of_ble_eq_true rfl) (by decide) (by decide) ?_
  rintro _ _ ⟨rfl, va, rfl⟩
  show gm_V D tc mi_J4_init_da8c8 _ 1 16 6 [some (.ref b)] [] [(b, .inr (11, [.ref va, .int 0, .int 0, .int (nI 0)])), (va, .inl (tc 5, 16, .inl (fun _ => 0)))]
  exact gm_vret rfl (by decide) (by decide) (by decide +kernel) ⟨rfl, va, rfl⟩
theorem sb_I0 : sb_I [] 16 (fun _ => 0) := ⟨fun i hi => absurd hi (Nat.not_lt_zero i), sb_fit0, by decide, Or.inl rfl⟩
