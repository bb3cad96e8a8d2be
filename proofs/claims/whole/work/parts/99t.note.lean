/-! the class's notes: what is written into the builder -/
abbrev mi_X4_writeEnd : pm_Mi := (4, yX4_writeEnd, cX4_writeEnd, 3, none, { frames := 7, cells := 9, slots := 306, locals := 194 }, [])
theorem cal_X4_writeEnd : pm_CalV mi_X4_writeEnd 2 := ⟨⟨(pm_tab (i := 1109) (by decide +kernel) rfl), (pm_tab (i := 8) (by decide +kernel) rfl), rfl, by decide +kernel, by decide +kernel, by decide +kernel⟩, (pm_tab (i := 1108) (by decide +kernel) rfl), (pm_prv (i := 12) (by decide +kernel) rfl)⟩
abbrev mi_X4_writeNote : pm_Mi := (4, yX4_writeNote, cX4_writeNote, 3, some (.object "java/lang/StringBuilder"), { frames := 8, cells := 18, slots := 564, locals := 216 }, [])
theorem cal_X4_writeNote : pm_CalV mi_X4_writeNote 1 := ⟨⟨(pm_tab (i := 950) (by decide +kernel) rfl), (pm_tab (i := 8) (by decide +kernel) rfl), rfl, by decide +kernel, by decide +kernel, by decide +kernel⟩, (pm_tab (i := 948) (by decide +kernel) rfl), (pm_tab (i := 949) (by decide +kernel) rfl)⟩
/-- the class's numbers of letter l -/
def sb_Ln (f : Nat → Nat → Int32) (l p wt re st ho rs si en tr : Nat) : Prop := f 27 l = nI p ∧ f 28 l = nI wt ∧ f 29 l = nI re ∧ f 31 l = nI st ∧ (st = 1 → f 35 l = nI ho) ∧ (st = 2 → f 33 l = nI rs) ∧ (st = 1 → re = 1 → f 36 l = nI si) ∧ (st ≠ 0 → f 32 l = nI en) ∧ f 34 l = nI tr ∧ p < 1000 ∧ wt < 1000 ∧ re ≤ 1 ∧ st ≤ 2 ∧ ho < 1000 ∧ rs < 1000 ∧ si < 1000 ∧ en < 1000 ∧ tr < 1000
/-- the end of a note -/
def lr_nend (re st ho rs si en : Nat) : List Nat := if st = 0 then [63] else if st = 2 then [60] ++ (lr_dg rs ++ ([64] ++ lr_dg en)) else if re = 1 then [62] ++ (lr_dg ho ++ ([47] ++ (lr_dg si ++ ([64] ++ lr_dg en)))) else [62] ++ (lr_dg ho ++ ([64] ++ lr_dg en))
theorem lr_nend_len (re st ho rs si en : Nat) : (lr_nend re st ho rs si en).length ≤ 12 := by
  have := lr_dg_len ho; have := lr_dg_len rs; have := lr_dg_len si; have := lr_dg_len en
  unfold lr_nend
  repeat' split
  all_goals (simp only [List.length_append, List.length_cons, List.length_nil]; omega)
theorem lr_note_eq {p wt re st ho rs si en tr : Nat} (h1 : re ≤ 1) (h2 : st ≤ 2) : lr_note p wt re st ho rs si en tr = (((([112] ++ lr_dg p) ++ [119]) ++ lr_dg wt) ++ (if re = 1 then [114] else [])) ++ (lr_nend re st ho rs si en ++ (if 0 < tr then [120] ++ lr_dg tr else [])) := by
  unfold lr_note lr_nend
  congr 1
  rcases (show st = 0 ∨ st = 1 ∨ st = 2 by omega) with rfl | rfl | rfl <;> rcases (show re = 0 ∨ re = 1 by omega) with rfl | rfl <;> simp
set_option maxHeartbeats 4000000 in
set_option maxRecDepth 100000 in
theorem c_X4_writeEnd {L : List Nat} {l p wt re st ho rs si en tr b va m : Nat} {a : Nat → Int32} {c5 : ClassId} {wr : va_W} (μ : pm_Mm) (hl : l < 30) (hN : sb_Ln μ.1 l p wt re st ho rs si en tr) (hI : sb_I L m a) (hL : L.length ≤ 9) (hE : μ.2.2.2 = sb_w (fun _ => c5) b va L.length m a ++ wr) : pm_CTt mi_X4_writeEnd [.ref 26, .ref 2000, .int (nI l)] μ (fun v M => v = none ∧ ∃ v2 m2 a2, M = sb_m μ (sb_w (fun _ => c5) b v2 (L ++ lr_nend re st ho rs si en).length m2 a2 ++ wr) ∧ sb_I (L ++ lr_nend re st ho rs si en) m2 a2) b c5 := by
  refine pm_CTt_of (lo := [some (.ref 26), some (.ref 2000), some (.int (nI l))]) (by decide +kernel) rfl rfl (by intro v hv; simp at hv; rcases hv with rfl | rfl | rfl <;> rfl) (Nat.le_of_ble_eq_true rfl) rfl ?_
  obtain ⟨e1, e2, e3, e4, e5, e6, e7, e8, e9, b1, b2, b3, b4, b5, b6, b7, b8, b9⟩ := id hN
  have d1 := lr_dg_len ho; have d2 := lr_dg_len rs; have d3 := lr_dg_len si; have d4 := lr_dg_len en
  rcases (show st = 0 ∨ st = 1 ∨ st = 2 by omega) with rfl | rfl | rfl
  · refine sb_num (ix := 31) (fk := 6) (r := 31) (l := l) (kl := 2) (j := 2) (x := nI 0) rfl rfl rfl hl (by decide +kernel) rfl rfl rfl (e4) (by decide +kernel) (by decide +kernel) (by decide +kernel) (by decide +kernel) ?_
    refine pm_if_ne (off := 11) 17 (by decide +kernel) (by decide) (fun h9 => absurd rfl h9) (fun _ => ?_)
    refine pm_s_aload_n (j := 1) (by decide +kernel) rfl rfl ?_
    refine pm_s_bipush (z := 63) (v := 63) rfl (by decide +kernel) ?_
    refine sb_putC (ix := 62) (c := 63) rfl hI (by decide) (by first | omega | (simp only [List.length_append, List.length_cons, List.length_nil]; omega)) hE (pm_tab (i := 981) (by decide +kernel) rfl) (by decide +kernel) (by decide +kernel) (Nat.le_of_ble_eq_true rfl) (Nat.le_refl _) (Nat.le_refl _) (fun v1 m1 a1 h1 => ?_)
    show pm_V mi_X4_writeEnd (_, _, sb_Tie b c5) 1 34 15 [some (.ref 26), some (.ref 2000), some (.int (nI l))] [.ref 2000] (sb_m μ (sb_w (fun _ => c5) b v1 _ m1 a1 ++ wr))
    refine pm_s_popr (by decide +kernel) ?_
    refine pm_vret rfl (by decide) (by decide) (by decide +kernel) ⟨rfl, v1, m1, a1, ?_, ?_⟩
    · rw [show L ++ lr_nend re 0 ho rs si en = (L ++ [(63 : Nat)]) from by unfold lr_nend; simp]
    · rw [show L ++ lr_nend re 0 ho rs si en = (L ++ [(63 : Nat)]) from by unfold lr_nend; simp]; exact h1
  · refine sb_num (ix := 31) (fk := 6) (r := 31) (l := l) (kl := 2) (j := 2) (x := nI 1) rfl rfl rfl hl (by decide +kernel) rfl rfl rfl (e4) (by decide +kernel) (by decide +kernel) (by decide +kernel) (by decide +kernel) ?_
    refine pm_if_ne (off := 11) 17 (by decide +kernel) (by decide) (fun _ => ?_) (fun h9 => absurd (show ¬ nI 1 = 0 from by decide) (fun g => g h9))
    refine sb_num (ix := 31) (fk := 6) (r := 31) (l := l) (kl := 2) (j := 2) (x := nI 1) rfl rfl rfl hl (by decide +kernel) rfl rfl rfl (e4) (by decide +kernel) (by decide +kernel) (by decide +kernel) (by decide +kernel) ?_
    refine pm_s_iconst (z := 2) (v := 2) rfl (by decide +kernel) ?_
    refine pm_icmp_ne (off := 22) 46 (by decide +kernel) (by decide) (fun _ => ?_) (fun h9 => absurd (show ¬ nI 1 = 2 from by decide) (fun g => g h9))
    refine pm_s_aload_n (j := 1) (by decide +kernel) rfl rfl ?_
    refine pm_s_bipush (z := 62) (v := 62) rfl (by decide +kernel) ?_
    refine sb_putC (ix := 62) (c := 62) rfl hI (by decide) (by first | omega | (simp only [List.length_append, List.length_cons, List.length_nil]; omega)) hE (pm_tab (i := 981) (by decide +kernel) rfl) (by decide +kernel) (by decide +kernel) (Nat.le_of_ble_eq_true rfl) (Nat.le_refl _) (Nat.le_refl _) (fun v1 m1 a1 h1 => ?_)
    show pm_V mi_X4_writeEnd (_, _, sb_Tie b c5) 1 34 52 [some (.ref 26), some (.ref 2000), some (.int (nI l))] [.ref 2000] (sb_m μ (sb_w (fun _ => c5) b v1 _ m1 a1 ++ wr))
    refine sb_num (ix := 43) (fk := 10) (r := 35) (l := l) (kl := 2) (j := 2) (x := nI ho) rfl rfl rfl hl (by decide +kernel) rfl rfl rfl (e5 rfl) (by decide +kernel) (by decide +kernel) (by decide +kernel) (by decide +kernel) ?_
    refine sb_putI (ix := 66) (c := ho) rfl h1 (b5) (by first | omega | (simp only [List.length_append, List.length_cons, List.length_nil]; omega)) rfl (pm_tab (i := 1072) (by decide +kernel) rfl) (by decide +kernel) (by decide +kernel) (Nat.le_of_ble_eq_true rfl) (Nat.le_refl _) (Nat.le_refl _) (fun v2 m2 a2 h2 => ?_)
    show pm_V mi_X4_writeEnd (_, _, sb_Tie b c5) 2 68 61 [some (.ref 26), some (.ref 2000), some (.int (nI l))] [.ref 2000] (sb_m μ (sb_w (fun _ => c5) b v2 _ m2 a2 ++ wr))
    refine pm_s_popr (by decide +kernel) ?_
    rcases (show re = 0 ∨ re = 1 by omega) with rfl | rfl
    · refine sb_num (ix := 25) (fk := 4) (r := 29) (l := l) (kl := 2) (j := 2) (x := nI 0) rfl rfl rfl hl (by decide +kernel) rfl rfl rfl (e3) (by decide +kernel) (by decide +kernel) (by decide +kernel) (by decide +kernel) ?_
      refine pm_s_iconst (z := 1) (v := 1) rfl (by decide +kernel) ?_
      refine pm_icmp_ne (off := 19) 88 (by decide +kernel) (by decide) (fun _ => ?_) (fun h9 => absurd (show ¬ nI 0 = 1 from by decide) (fun g => g h9))
      refine pm_s_aload_n (j := 1) (by decide +kernel) rfl rfl ?_
      refine pm_s_bipush (z := 64) (v := 64) rfl (by decide +kernel) ?_
      refine sb_putC (ix := 62) (c := 64) rfl h2 (by decide) (by first | omega | (simp only [List.length_append, List.length_cons, List.length_nil]; omega)) rfl (pm_tab (i := 981) (by decide +kernel) rfl) (by decide +kernel) (by decide +kernel) (Nat.le_of_ble_eq_true rfl) (Nat.le_refl _) (Nat.le_refl _) (fun v3 m3 a3 h3 => ?_)
      show pm_V mi_X4_writeEnd (_, _, sb_Tie b c5) 3 102 94 [some (.ref 26), some (.ref 2000), some (.int (nI l))] [.ref 2000] (sb_m μ (sb_w (fun _ => c5) b v3 _ m3 a3 ++ wr))
      refine sb_num (ix := 34) (fk := 7) (r := 32) (l := l) (kl := 2) (j := 2) (x := nI en) rfl rfl rfl hl (by decide +kernel) rfl rfl rfl (e8 (by decide)) (by decide +kernel) (by decide +kernel) (by decide +kernel) (by decide +kernel) ?_
      refine sb_putI (ix := 66) (c := en) rfl h3 (b8) (by first | omega | (simp only [List.length_append, List.length_cons, List.length_nil]; omega)) rfl (pm_tab (i := 1072) (by decide +kernel) rfl) (by decide +kernel) (by decide +kernel) (Nat.le_of_ble_eq_true rfl) (Nat.le_refl _) (Nat.le_refl _) (fun v4 m4 a4 h4 => ?_)
      show pm_V mi_X4_writeEnd (_, _, sb_Tie b c5) 4 136 103 [some (.ref 26), some (.ref 2000), some (.int (nI l))] [.ref 2000] (sb_m μ (sb_w (fun _ => c5) b v4 _ m4 a4 ++ wr))
      refine pm_s_popr (by decide +kernel) ?_
      refine pm_vret rfl (by decide) (by decide) (by decide +kernel) ⟨rfl, v4, m4, a4, ?_, ?_⟩
      · rw [show L ++ lr_nend 0 1 ho rs si en = ((((L ++ [(62 : Nat)]) ++ lr_dg ho) ++ [(64 : Nat)]) ++ lr_dg en) from by unfold lr_nend; simp]
      · rw [show L ++ lr_nend 0 1 ho rs si en = ((((L ++ [(62 : Nat)]) ++ lr_dg ho) ++ [(64 : Nat)]) ++ lr_dg en) from by unfold lr_nend; simp]; exact h4
    · refine sb_num (ix := 25) (fk := 4) (r := 29) (l := l) (kl := 2) (j := 2) (x := nI 1) rfl rfl rfl hl (by decide +kernel) rfl rfl rfl (e3) (by decide +kernel) (by decide +kernel) (by decide +kernel) (by decide +kernel) ?_
      refine pm_s_iconst (z := 1) (v := 1) rfl (by decide +kernel) ?_
      refine pm_icmp_ne (off := 19) 88 (by decide +kernel) (by decide) (fun h9 => absurd rfl h9) (fun _ => ?_)
      refine pm_s_aload_n (j := 1) (by decide +kernel) rfl rfl ?_
      refine pm_s_bipush (z := 47) (v := 47) rfl (by decide +kernel) ?_
      refine sb_putC (ix := 62) (c := 47) rfl h2 (by decide) (by first | omega | (simp only [List.length_append, List.length_cons, List.length_nil]; omega)) rfl (pm_tab (i := 981) (by decide +kernel) rfl) (by decide +kernel) (by decide +kernel) (Nat.le_of_ble_eq_true rfl) (Nat.le_refl _) (Nat.le_refl _) (fun v3 m3 a3 h3 => ?_)
      show pm_V mi_X4_writeEnd (_, _, sb_Tie b c5) 3 102 78 [some (.ref 26), some (.ref 2000), some (.int (nI l))] [.ref 2000] (sb_m μ (sb_w (fun _ => c5) b v3 _ m3 a3 ++ wr))
      refine sb_num (ix := 46) (fk := 11) (r := 36) (l := l) (kl := 2) (j := 2) (x := nI si) rfl rfl rfl hl (by decide +kernel) rfl rfl rfl (e7 rfl rfl) (by decide +kernel) (by decide +kernel) (by decide +kernel) (by decide +kernel) ?_
      refine sb_putI (ix := 66) (c := si) rfl h3 (b7) (by first | omega | (simp only [List.length_append, List.length_cons, List.length_nil]; omega)) rfl (pm_tab (i := 1072) (by decide +kernel) rfl) (by decide +kernel) (by decide +kernel) (Nat.le_of_ble_eq_true rfl) (Nat.le_refl _) (Nat.le_refl _) (fun v4 m4 a4 h4 => ?_)
      show pm_V mi_X4_writeEnd (_, _, sb_Tie b c5) 4 136 87 [some (.ref 26), some (.ref 2000), some (.int (nI l))] [.ref 2000] (sb_m μ (sb_w (fun _ => c5) b v4 _ m4 a4 ++ wr))
      refine pm_s_popr (by decide +kernel) ?_
      refine pm_s_aload_n (j := 1) (by decide +kernel) rfl rfl ?_
      refine pm_s_bipush (z := 64) (v := 64) rfl (by decide +kernel) ?_
      refine sb_putC (ix := 62) (c := 64) rfl h4 (by decide) (by first | omega | (simp only [List.length_append, List.length_cons, List.length_nil]; omega)) rfl (pm_tab (i := 981) (by decide +kernel) rfl) (by decide +kernel) (by decide +kernel) (Nat.le_of_ble_eq_true rfl) (Nat.le_refl _) (Nat.le_refl _) (fun v5 m5 a5 h5 => ?_)
      show pm_V mi_X4_writeEnd (_, _, sb_Tie b c5) 5 170 94 [some (.ref 26), some (.ref 2000), some (.int (nI l))] [.ref 2000] (sb_m μ (sb_w (fun _ => c5) b v5 _ m5 a5 ++ wr))
      refine sb_num (ix := 34) (fk := 7) (r := 32) (l := l) (kl := 2) (j := 2) (x := nI en) rfl rfl rfl hl (by decide +kernel) rfl rfl rfl (e8 (by decide)) (by decide +kernel) (by decide +kernel) (by decide +kernel) (by decide +kernel) ?_
      refine sb_putI (ix := 66) (c := en) rfl h5 (b8) (by first | omega | (simp only [List.length_append, List.length_cons, List.length_nil]; omega)) rfl (pm_tab (i := 1072) (by decide +kernel) rfl) (by decide +kernel) (by decide +kernel) (Nat.le_of_ble_eq_true rfl) (Nat.le_refl _) (Nat.le_refl _) (fun v6 m6 a6 h6 => ?_)
      show pm_V mi_X4_writeEnd (_, _, sb_Tie b c5) 6 204 103 [some (.ref 26), some (.ref 2000), some (.int (nI l))] [.ref 2000] (sb_m μ (sb_w (fun _ => c5) b v6 _ m6 a6 ++ wr))
      refine pm_s_popr (by decide +kernel) ?_
      refine pm_vret rfl (by decide) (by decide) (by decide +kernel) ⟨rfl, v6, m6, a6, ?_, ?_⟩
      · rw [show L ++ lr_nend 1 1 ho rs si en = ((((((L ++ [(62 : Nat)]) ++ lr_dg ho) ++ [(47 : Nat)]) ++ lr_dg si) ++ [(64 : Nat)]) ++ lr_dg en) from by unfold lr_nend; simp]
      · rw [show L ++ lr_nend 1 1 ho rs si en = ((((((L ++ [(62 : Nat)]) ++ lr_dg ho) ++ [(47 : Nat)]) ++ lr_dg si) ++ [(64 : Nat)]) ++ lr_dg en) from by unfold lr_nend; simp]; exact h6
  · refine sb_num (ix := 31) (fk := 6) (r := 31) (l := l) (kl := 2) (j := 2) (x := nI 2) rfl rfl rfl hl (by decide +kernel) rfl rfl rfl (e4) (by decide +kernel) (by decide +kernel) (by decide +kernel) (by decide +kernel) ?_
    refine pm_if_ne (off := 11) 17 (by decide +kernel) (by decide) (fun _ => ?_) (fun h9 => absurd (show ¬ nI 2 = 0 from by decide) (fun g => g h9))
    refine sb_num (ix := 31) (fk := 6) (r := 31) (l := l) (kl := 2) (j := 2) (x := nI 2) rfl rfl rfl hl (by decide +kernel) rfl rfl rfl (e4) (by decide +kernel) (by decide +kernel) (by decide +kernel) (by decide +kernel) ?_
    refine pm_s_iconst (z := 2) (v := 2) rfl (by decide +kernel) ?_
    refine pm_icmp_ne (off := 22) 46 (by decide +kernel) (by decide) (fun h9 => absurd rfl h9) (fun _ => ?_)
    refine pm_s_aload_n (j := 1) (by decide +kernel) rfl rfl ?_
    refine pm_s_bipush (z := 60) (v := 60) rfl (by decide +kernel) ?_
    refine sb_putC (ix := 62) (c := 60) rfl hI (by decide) (by first | omega | (simp only [List.length_append, List.length_cons, List.length_nil]; omega)) hE (pm_tab (i := 981) (by decide +kernel) rfl) (by decide +kernel) (by decide +kernel) (Nat.le_of_ble_eq_true rfl) (Nat.le_refl _) (Nat.le_refl _) (fun v1 m1 a1 h1 => ?_)
    show pm_V mi_X4_writeEnd (_, _, sb_Tie b c5) 1 34 33 [some (.ref 26), some (.ref 2000), some (.int (nI l))] [.ref 2000] (sb_m μ (sb_w (fun _ => c5) b v1 _ m1 a1 ++ wr))
    refine sb_num (ix := 37) (fk := 8) (r := 33) (l := l) (kl := 2) (j := 2) (x := nI rs) rfl rfl rfl hl (by decide +kernel) rfl rfl rfl (e6 rfl) (by decide +kernel) (by decide +kernel) (by decide +kernel) (by decide +kernel) ?_
    refine sb_putI (ix := 66) (c := rs) rfl h1 (b6) (by first | omega | (simp only [List.length_append, List.length_cons, List.length_nil]; omega)) rfl (pm_tab (i := 1072) (by decide +kernel) rfl) (by decide +kernel) (by decide +kernel) (Nat.le_of_ble_eq_true rfl) (Nat.le_refl _) (Nat.le_refl _) (fun v2 m2 a2 h2 => ?_)
    show pm_V mi_X4_writeEnd (_, _, sb_Tie b c5) 2 68 42 [some (.ref 26), some (.ref 2000), some (.int (nI l))] [.ref 2000] (sb_m μ (sb_w (fun _ => c5) b v2 _ m2 a2 ++ wr))
    refine pm_s_popr (by decide +kernel) ?_
    refine pm_s_goto (off := 45) (tgt := 88) (by decide +kernel) (by decide) ?_
    refine pm_s_aload_n (j := 1) (by decide +kernel) rfl rfl ?_
    refine pm_s_bipush (z := 64) (v := 64) rfl (by decide +kernel) ?_
    refine sb_putC (ix := 62) (c := 64) rfl h2 (by decide) (by first | omega | (simp only [List.length_append, List.length_cons, List.length_nil]; omega)) rfl (pm_tab (i := 981) (by decide +kernel) rfl) (by decide +kernel) (by decide +kernel) (Nat.le_of_ble_eq_true rfl) (Nat.le_refl _) (Nat.le_refl _) (fun v3 m3 a3 h3 => ?_)
    show pm_V mi_X4_writeEnd (_, _, sb_Tie b c5) 3 102 94 [some (.ref 26), some (.ref 2000), some (.int (nI l))] [.ref 2000] (sb_m μ (sb_w (fun _ => c5) b v3 _ m3 a3 ++ wr))
    refine sb_num (ix := 34) (fk := 7) (r := 32) (l := l) (kl := 2) (j := 2) (x := nI en) rfl rfl rfl hl (by decide +kernel) rfl rfl rfl (e8 (by decide)) (by decide +kernel) (by decide +kernel) (by decide +kernel) (by decide +kernel) ?_
    refine sb_putI (ix := 66) (c := en) rfl h3 (b8) (by first | omega | (simp only [List.length_append, List.length_cons, List.length_nil]; omega)) rfl (pm_tab (i := 1072) (by decide +kernel) rfl) (by decide +kernel) (by decide +kernel) (Nat.le_of_ble_eq_true rfl) (Nat.le_refl _) (Nat.le_refl _) (fun v4 m4 a4 h4 => ?_)
    show pm_V mi_X4_writeEnd (_, _, sb_Tie b c5) 4 136 103 [some (.ref 26), some (.ref 2000), some (.int (nI l))] [.ref 2000] (sb_m μ (sb_w (fun _ => c5) b v4 _ m4 a4 ++ wr))
    refine pm_s_popr (by decide +kernel) ?_
    refine pm_vret rfl (by decide) (by decide) (by decide +kernel) ⟨rfl, v4, m4, a4, ?_, ?_⟩
    · rw [show L ++ lr_nend re 2 ho rs si en = ((((L ++ [(60 : Nat)]) ++ lr_dg rs) ++ [(64 : Nat)]) ++ lr_dg en) from by unfold lr_nend; simp]
    · rw [show L ++ lr_nend re 2 ho rs si en = ((((L ++ [(60 : Nat)]) ++ lr_dg rs) ++ [(64 : Nat)]) ++ lr_dg en) from by unfold lr_nend; simp]; exact h4
set_option maxHeartbeats 4000000 in
set_option maxRecDepth 100000 in
theorem s_X4_writeNote {l p wt re st ho rs si en tr b va : Nat} {c5 : ClassId} (μ : pm_Mm) (hl : l < 30) (hN : sb_Ln μ.1 l p wt re st ho rs si en tr) : pm_V mi_X4_writeNote ((fun v M => v = some (.ref 2000) ∧ ∃ va m a, M = sb_m μ (sb_w (fun _ => c5) b va (lr_note p wt re st ho rs si en tr).length m a ++ μ.2.2.2) ∧ sb_I (lr_note p wt re st ho rs si en tr) m a), pm_NX, sb_Tie b c5) 2 20 8 [some (.ref 26), some (.int (nI l)), some (.ref 2000)] [] (sb_m μ (sb_w (fun _ => c5) b va 0 16 (fun _ => 0) ++ μ.2.2.2)) := by
  obtain ⟨e1, e2, e3, e4, e5, e6, e7, e8, e9, b1, b2, b3, b4, b5, b6, b7, b8, b9⟩ := id hN
  have d1 := lr_dg_len p; have d2 := lr_dg_len wt; have d3 := lr_dg_len tr; have d4 := lr_nend_len re st ho rs si en
  refine pm_s_aload_n (j := 2) (by decide +kernel) rfl rfl ?_
  refine pm_s_bipush (z := 112) (v := 112) rfl (by decide +kernel) ?_
  refine sb_putC (ix := 62) (c := 112) rfl sb_I0 (by decide) (by first | omega | (simp only [List.length_append, List.length_cons, List.length_nil]; omega)) rfl (pm_tab (i := 981) (by decide +kernel) rfl) (by decide +kernel) (by decide +kernel) (Nat.le_of_ble_eq_true rfl) (Nat.le_refl _) (Nat.le_refl _) (fun v1 m1 a1 h1 => ?_)
  show pm_V mi_X4_writeNote (_, _, sb_Tie b c5) 3 54 14 [some (.ref 26), some (.int (nI l)), some (.ref 2000)] [.ref 2000] (sb_m μ (sb_w (fun _ => c5) b v1 _ m1 a1 ++ μ.2.2.2))
  refine sb_num (ix := 18) (fk := 2) (r := 27) (l := l) (kl := 1) (j := 1) (x := nI p) rfl rfl rfl hl (by decide +kernel) rfl rfl rfl (e1) (by decide +kernel) (by decide +kernel) (by decide +kernel) (by decide +kernel) ?_
  refine sb_putI (ix := 66) (c := p) rfl h1 (b1) (by first | omega | (simp only [List.length_append, List.length_cons, List.length_nil]; omega)) rfl (pm_tab (i := 1072) (by decide +kernel) rfl) (by decide +kernel) (by decide +kernel) (Nat.le_of_ble_eq_true rfl) (Nat.le_refl _) (Nat.le_refl _) (fun v2 m2 a2 h2 => ?_)
  show pm_V mi_X4_writeNote (_, _, sb_Tie b c5) 4 88 23 [some (.ref 26), some (.int (nI l)), some (.ref 2000)] [.ref 2000] (sb_m μ (sb_w (fun _ => c5) b v2 _ m2 a2 ++ μ.2.2.2))
  refine pm_s_bipush (z := 119) (v := 119) rfl (by decide +kernel) ?_
  refine sb_putC (ix := 62) (c := 119) rfl h2 (by decide) (by first | omega | (simp only [List.length_append, List.length_cons, List.length_nil]; omega)) rfl (pm_tab (i := 981) (by decide +kernel) rfl) (by decide +kernel) (by decide +kernel) (Nat.le_of_ble_eq_true rfl) (Nat.le_refl _) (Nat.le_refl _) (fun v3 m3 a3 h3 => ?_)
  show pm_V mi_X4_writeNote (_, _, sb_Tie b c5) 5 122 28 [some (.ref 26), some (.int (nI l)), some (.ref 2000)] [.ref 2000] (sb_m μ (sb_w (fun _ => c5) b v3 _ m3 a3 ++ μ.2.2.2))
  refine sb_num (ix := 22) (fk := 3) (r := 28) (l := l) (kl := 1) (j := 1) (x := nI wt) rfl rfl rfl hl (by decide +kernel) rfl rfl rfl (e2) (by decide +kernel) (by decide +kernel) (by decide +kernel) (by decide +kernel) ?_
  refine sb_putI (ix := 66) (c := wt) rfl h3 (b2) (by first | omega | (simp only [List.length_append, List.length_cons, List.length_nil]; omega)) rfl (pm_tab (i := 1072) (by decide +kernel) rfl) (by decide +kernel) (by decide +kernel) (Nat.le_of_ble_eq_true rfl) (Nat.le_refl _) (Nat.le_refl _) (fun v4 m4 a4 h4 => ?_)
  show pm_V mi_X4_writeNote (_, _, sb_Tie b c5) 6 156 37 [some (.ref 26), some (.int (nI l)), some (.ref 2000)] [.ref 2000] (sb_m μ (sb_w (fun _ => c5) b v4 _ m4 a4 ++ μ.2.2.2))
  refine pm_s_popr (by decide +kernel) ?_
  rcases (show re = 0 ∨ re = 1 by omega) with rfl | rfl
  · refine sb_num (ix := 25) (fk := 4) (r := 29) (l := l) (kl := 1) (j := 1) (x := nI 0) rfl rfl rfl hl (by decide +kernel) rfl rfl rfl (e3) (by decide +kernel) (by decide +kernel) (by decide +kernel) (by decide +kernel) ?_
    refine pm_s_iconst (z := 1) (v := 1) rfl (by decide +kernel) ?_
    refine pm_icmp_ne (off := 10) 55 (by decide +kernel) (by decide) (fun _ => ?_) (fun h9 => absurd (show ¬ nI 0 = 1 from by decide) (fun g => g h9))
    refine pm_s_aload_n (j := 0) (by decide +kernel) rfl rfl ?_
    refine pm_s_aload_n (j := 2) (by decide +kernel) rfl rfl ?_
    refine pm_s_iload_n (j := 1) (by decide +kernel) rfl rfl ?_
    refine sb_callT mi_X4_writeEnd (ix := 69) (r := 26) (ci := 4) (kc2 := 15) (ks2 := 462) (As := [.ref 2000, .int (nI l)]) (rest := []) (c_X4_writeEnd (wr := μ.2.2.2) (p := p) (wt := wt) (re := 0) (st := st) (ho := ho) (rs := rs) (si := si) (en := en) (tr := tr) _ hl hN h4 (by simp only [List.length_append, List.length_cons, List.length_nil]; omega) rfl) cal_X4_writeEnd (pm_tab (i := 1106) (by decide +kernel) rfl) (by decide +kernel) (by decide +kernel) rfl rfl rfl rfl (Nat.le_of_ble_eq_true rfl) (Nat.le_of_ble_eq_true rfl) (Nat.le_of_ble_eq_true rfl) ?_
    rintro _ _ ⟨rfl, v5, m5, a5, rfl, h5⟩
    show pm_V mi_X4_writeNote (_, _, sb_Tie b c5) 15 462 61 [some (.ref 26), some (.int (nI l)), some (.ref 2000)] [] (sb_m μ (sb_w (fun _ => c5) b v5 _ m5 a5 ++ μ.2.2.2))
    refine sb_num (ix := 40) (fk := 9) (r := 34) (l := l) (kl := 1) (j := 1) (x := nI tr) rfl rfl rfl hl (by decide +kernel) rfl rfl rfl (e9) (by decide +kernel) (by decide +kernel) (by decide +kernel) (by decide +kernel) ?_
    by_cases ht : 0 < tr
    · refine pm_if_le (off := 19) 86 (by decide +kernel) (by decide) (fun h9 => absurd h9 (nI_nle ht (by omega))) (fun _ => ?_)
      refine pm_s_aload_n (j := 2) (by decide +kernel) rfl rfl ?_
      refine pm_s_bipush (z := 120) (v := 120) rfl (by decide +kernel) ?_
      refine sb_putC (ix := 62) (c := 120) rfl h5 (by decide) (by first | omega | (simp only [List.length_append, List.length_cons, List.length_nil]; omega)) rfl (pm_tab (i := 981) (by decide +kernel) rfl) (by decide +kernel) (by decide +kernel) (Nat.le_of_ble_eq_true rfl) (Nat.le_refl _) (Nat.le_refl _) (fun v6 m6 a6 h6 => ?_)
      show pm_V mi_X4_writeNote (_, _, sb_Tie b c5) 16 496 76 [some (.ref 26), some (.int (nI l)), some (.ref 2000)] [.ref 2000] (sb_m μ (sb_w (fun _ => c5) b v6 _ m6 a6 ++ μ.2.2.2))
      refine sb_num (ix := 40) (fk := 9) (r := 34) (l := l) (kl := 1) (j := 1) (x := nI tr) rfl rfl rfl hl (by decide +kernel) rfl rfl rfl (e9) (by decide +kernel) (by decide +kernel) (by decide +kernel) (by decide +kernel) ?_
      refine sb_putI (ix := 66) (c := tr) rfl h6 (b9) (by first | omega | (simp only [List.length_append, List.length_cons, List.length_nil]; omega)) rfl (pm_tab (i := 1072) (by decide +kernel) rfl) (by decide +kernel) (by decide +kernel) (Nat.le_of_ble_eq_true rfl) (Nat.le_refl _) (Nat.le_refl _) (fun v7 m7 a7 h7 => ?_)
      show pm_V mi_X4_writeNote (_, _, sb_Tie b c5) 17 530 85 [some (.ref 26), some (.int (nI l)), some (.ref 2000)] [.ref 2000] (sb_m μ (sb_w (fun _ => c5) b v7 _ m7 a7 ++ μ.2.2.2))
      refine pm_s_popr (by decide +kernel) ?_
      refine pm_s_aload_n (j := 2) (by decide +kernel) rfl rfl ?_
      refine pm_aret rfl (Or.inl ⟨_, rfl⟩) (by decide) (by decide) (by decide +kernel) ⟨rfl, v7, m7, a7, ?_, ?_⟩
      · rw [show lr_note p wt 0 st ho rs si en tr = (((((((([] : List Nat) ++ [(112 : Nat)]) ++ lr_dg p) ++ [(119 : Nat)]) ++ lr_dg wt) ++ lr_nend 0 st ho rs si en) ++ [(120 : Nat)]) ++ lr_dg tr) from by rw [lr_note_eq b3 b4, if_pos ht]; simp]
      · rw [show lr_note p wt 0 st ho rs si en tr = (((((((([] : List Nat) ++ [(112 : Nat)]) ++ lr_dg p) ++ [(119 : Nat)]) ++ lr_dg wt) ++ lr_nend 0 st ho rs si en) ++ [(120 : Nat)]) ++ lr_dg tr) from by rw [lr_note_eq b3 b4, if_pos ht]; simp]; exact h7
    · obtain rfl : tr = 0 := by omega
      refine pm_if_le (off := 19) 86 (by decide +kernel) (by decide) (fun _ => ?_) (fun h9 => absurd (show nI 0 ≤ 0 from by decide) h9)
      refine pm_s_aload_n (j := 2) (by decide +kernel) rfl rfl ?_
      refine pm_aret rfl (Or.inl ⟨_, rfl⟩) (by decide) (by decide) (by decide +kernel) ⟨rfl, v5, m5, a5, ?_, ?_⟩
      · rw [show lr_note p wt 0 st ho rs si en 0 = (((((([] : List Nat) ++ [(112 : Nat)]) ++ lr_dg p) ++ [(119 : Nat)]) ++ lr_dg wt) ++ lr_nend 0 st ho rs si en) from by rw [lr_note_eq b3 b4, if_neg ht]; simp]
      · rw [show lr_note p wt 0 st ho rs si en 0 = (((((([] : List Nat) ++ [(112 : Nat)]) ++ lr_dg p) ++ [(119 : Nat)]) ++ lr_dg wt) ++ lr_nend 0 st ho rs si en) from by rw [lr_note_eq b3 b4, if_neg ht]; simp]; exact h5
  · refine sb_num (ix := 25) (fk := 4) (r := 29) (l := l) (kl := 1) (j := 1) (x := nI 1) rfl rfl rfl hl (by decide +kernel) rfl rfl rfl (e3) (by decide +kernel) (by decide +kernel) (by decide +kernel) (by decide +kernel) ?_
    refine pm_s_iconst (z := 1) (v := 1) rfl (by decide +kernel) ?_
    refine pm_icmp_ne (off := 10) 55 (by decide +kernel) (by decide) (fun h9 => absurd rfl h9) (fun _ => ?_)
    refine pm_s_aload_n (j := 2) (by decide +kernel) rfl rfl ?_
    refine pm_s_bipush (z := 114) (v := 114) rfl (by decide +kernel) ?_
    refine sb_putC (ix := 62) (c := 114) rfl h4 (by decide) (by first | omega | (simp only [List.length_append, List.length_cons, List.length_nil]; omega)) rfl (pm_tab (i := 981) (by decide +kernel) rfl) (by decide +kernel) (by decide +kernel) (Nat.le_of_ble_eq_true rfl) (Nat.le_refl _) (Nat.le_refl _) (fun v5 m5 a5 h5 => ?_)
    show pm_V mi_X4_writeNote (_, _, sb_Tie b c5) 7 190 54 [some (.ref 26), some (.int (nI l)), some (.ref 2000)] [.ref 2000] (sb_m μ (sb_w (fun _ => c5) b v5 _ m5 a5 ++ μ.2.2.2))
    refine pm_s_popr (by decide +kernel) ?_
    refine pm_s_aload_n (j := 0) (by decide +kernel) rfl rfl ?_
    refine pm_s_aload_n (j := 2) (by decide +kernel) rfl rfl ?_
    refine pm_s_iload_n (j := 1) (by decide +kernel) rfl rfl ?_
    refine sb_callT mi_X4_writeEnd (ix := 69) (r := 26) (ci := 4) (kc2 := 16) (ks2 := 496) (As := [.ref 2000, .int (nI l)]) (rest := []) (c_X4_writeEnd (wr := μ.2.2.2) (p := p) (wt := wt) (re := 1) (st := st) (ho := ho) (rs := rs) (si := si) (en := en) (tr := tr) _ hl hN h5 (by simp only [List.length_append, List.length_cons, List.length_nil]; omega) rfl) cal_X4_writeEnd (pm_tab (i := 1106) (by decide +kernel) rfl) (by decide +kernel) (by decide +kernel) rfl rfl rfl rfl (Nat.le_of_ble_eq_true rfl) (Nat.le_of_ble_eq_true rfl) (Nat.le_of_ble_eq_true rfl) ?_
    rintro _ _ ⟨rfl, v6, m6, a6, rfl, h6⟩
    show pm_V mi_X4_writeNote (_, _, sb_Tie b c5) 16 496 61 [some (.ref 26), some (.int (nI l)), some (.ref 2000)] [] (sb_m μ (sb_w (fun _ => c5) b v6 _ m6 a6 ++ μ.2.2.2))
    refine sb_num (ix := 40) (fk := 9) (r := 34) (l := l) (kl := 1) (j := 1) (x := nI tr) rfl rfl rfl hl (by decide +kernel) rfl rfl rfl (e9) (by decide +kernel) (by decide +kernel) (by decide +kernel) (by decide +kernel) ?_
    by_cases ht : 0 < tr
    · refine pm_if_le (off := 19) 86 (by decide +kernel) (by decide) (fun h9 => absurd h9 (nI_nle ht (by omega))) (fun _ => ?_)
      refine pm_s_aload_n (j := 2) (by decide +kernel) rfl rfl ?_
      refine pm_s_bipush (z := 120) (v := 120) rfl (by decide +kernel) ?_
      refine sb_putC (ix := 62) (c := 120) rfl h6 (by decide) (by first | omega | (simp only [List.length_append, List.length_cons, List.length_nil]; omega)) rfl (pm_tab (i := 981) (by decide +kernel) rfl) (by decide +kernel) (by decide +kernel) (Nat.le_of_ble_eq_true rfl) (Nat.le_refl _) (Nat.le_refl _) (fun v7 m7 a7 h7 => ?_)
      show pm_V mi_X4_writeNote (_, _, sb_Tie b c5) 17 530 76 [some (.ref 26), some (.int (nI l)), some (.ref 2000)] [.ref 2000] (sb_m μ (sb_w (fun _ => c5) b v7 _ m7 a7 ++ μ.2.2.2))
      refine sb_num (ix := 40) (fk := 9) (r := 34) (l := l) (kl := 1) (j := 1) (x := nI tr) rfl rfl rfl hl (by decide +kernel) rfl rfl rfl (e9) (by decide +kernel) (by decide +kernel) (by decide +kernel) (by decide +kernel) ?_
      refine sb_putI (ix := 66) (c := tr) rfl h7 (b9) (by first | omega | (simp only [List.length_append, List.length_cons, List.length_nil]; omega)) rfl (pm_tab (i := 1072) (by decide +kernel) rfl) (by decide +kernel) (by decide +kernel) (Nat.le_of_ble_eq_true rfl) (Nat.le_refl _) (Nat.le_refl _) (fun v8 m8 a8 h8 => ?_)
      show pm_V mi_X4_writeNote (_, _, sb_Tie b c5) 18 564 85 [some (.ref 26), some (.int (nI l)), some (.ref 2000)] [.ref 2000] (sb_m μ (sb_w (fun _ => c5) b v8 _ m8 a8 ++ μ.2.2.2))
      refine pm_s_popr (by decide +kernel) ?_
      refine pm_s_aload_n (j := 2) (by decide +kernel) rfl rfl ?_
      refine pm_aret rfl (Or.inl ⟨_, rfl⟩) (by decide) (by decide) (by decide +kernel) ⟨rfl, v8, m8, a8, ?_, ?_⟩
      · rw [show lr_note p wt 1 st ho rs si en tr = ((((((((([] : List Nat) ++ [(112 : Nat)]) ++ lr_dg p) ++ [(119 : Nat)]) ++ lr_dg wt) ++ [(114 : Nat)]) ++ lr_nend 1 st ho rs si en) ++ [(120 : Nat)]) ++ lr_dg tr) from by rw [lr_note_eq b3 b4, if_pos ht]; simp]
      · rw [show lr_note p wt 1 st ho rs si en tr = ((((((((([] : List Nat) ++ [(112 : Nat)]) ++ lr_dg p) ++ [(119 : Nat)]) ++ lr_dg wt) ++ [(114 : Nat)]) ++ lr_nend 1 st ho rs si en) ++ [(120 : Nat)]) ++ lr_dg tr) from by rw [lr_note_eq b3 b4, if_pos ht]; simp]; exact h8
    · obtain rfl : tr = 0 := by omega
      refine pm_if_le (off := 19) 86 (by decide +kernel) (by decide) (fun _ => ?_) (fun h9 => absurd (show nI 0 ≤ 0 from by decide) h9)
      refine pm_s_aload_n (j := 2) (by decide +kernel) rfl rfl ?_
      refine pm_aret rfl (Or.inl ⟨_, rfl⟩) (by decide) (by decide) (by decide +kernel) ⟨rfl, v6, m6, a6, ?_, ?_⟩
      · rw [show lr_note p wt 1 st ho rs si en 0 = ((((((([] : List Nat) ++ [(112 : Nat)]) ++ lr_dg p) ++ [(119 : Nat)]) ++ lr_dg wt) ++ [(114 : Nat)]) ++ lr_nend 1 st ho rs si en) from by rw [lr_note_eq b3 b4, if_neg ht]; simp]
      · rw [show lr_note p wt 1 st ho rs si en 0 = ((((((([] : List Nat) ++ [(112 : Nat)]) ++ lr_dg p) ++ [(119 : Nat)]) ++ lr_dg wt) ++ [(114 : Nat)]) ++ lr_nend 1 st ho rs si en) from by rw [lr_note_eq b3 b4, if_neg ht]; simp]; exact h6
set_option maxHeartbeats 4000000 in
set_option maxRecDepth 100000 in
theorem c_X4_writeNote {l p wt re st ho rs si en tr : Nat} (μ : pm_Mm) (hl : l < 30) (hN : sb_Ln μ.1 l p wt re st ho rs si en tr) : pm_CB mi_X4_writeNote [.ref 26, .int (nI l)] μ (fun c5 b M => ∃ va m a, M = sb_m μ (sb_w (fun _ => c5) b va (lr_note p wt re st ho rs si en tr).length m a ++ μ.2.2.2) ∧ sb_I (lr_note p wt re st ho rs si en tr) m a) := by
  intro D tc ad
  refine gm_CT_of (lo := [some (.ref (ad 26)), some (.int (nI l)), none]) (by decide +kernel) rfl rfl (by intro v hv; simp at hv; rcases hv with rfl | rfl <;> rfl) (Nat.le_of_ble_eq_true rfl) rfl ?_
  refine gm_new (ix := 59) (ci := 11) (N := 4) (C := RJ4) (T := TJ4) (fs := [.null, .int 0, .int 0, .int 0]) tyJ4 sb_cf rfl tyJ4_ok (pm_tab (i := 951) (by decide +kernel) rfl) (pm_tab (i := 952) (by decide +kernel) rfl) (pm_tab (i := 25) (by decide +kernel) rfl) (fun j hj => by rcases (show j = 0 ∨ j = 1 ∨ j = 2 ∨ j = 3 by omega) with rfl | rfl | rfl | rfl <;> rfl) (by decide) (by decide) (by decide +kernel) (fun b => ?_)
  refine gm_dup rfl (by decide +kernel) ?_
  refine gm_V.perm List.perm_append_comm ?_
  refine gm_callI (ix := 61) mi_J4_init_da8c8 (b := b) (n := 0) (As := []) (rest := [.ref b]) (wc := [(b, .inr (11, [.null, .int 0, .int 0, .int 0]))]) (wr := pm_ws tc ad μ) (kc2 := 2) (ks2 := 20) (c_J4_init_da8c8 D tc b) rfl cal_J4_init_da8c8 (pm_tab (i := 954) (by decide +kernel) rfl) rfl rfl (pm_tab (i := 953) (by decide +kernel) rfl) (by decide +kernel) (by decide +kernel) rfl rfl (Nat.le_of_ble_eq_true rfl) (by decide) (by decide) ?_
  rintro _ _ ⟨rfl, va, rfl⟩
  refine gm_astore_n (j := 2) (a := 2) (by decide +kernel) rfl (by decide) rfl (Nat.le_of_ble_eq_true rfl) ?_
  refine gm_V.perm (ws' := pm_ws tc (sb_ax ad b) (sb_m μ (sb_w tc b va 0 16 (fun _ => 0) ++ μ.2.2.2))) ?_ ?_
  · rw [sb_ws_ax, sb_ws_m]
    exact List.perm_append_comm_assoc (sb_w tc b va 0 16 (fun _ => 0)) (pm_sh.mapIdx (fun i x => (ad i, pm_ce tc ad μ i x))) μ.2.2.2
  · exact sb_gm_pm (ad := sb_ax ad b) (tc := tc) (c5 := tc 5) (b := b) (lo := [some (.ref 26), some (.int (nI l)), some (.ref 2000)]) (st := []) (P := fun v M => v = some (.ref 2000) ∧ ∃ va m a, M = sb_m μ (sb_w (fun _ => tc 5) b va (lr_note p wt re st ho rs si en tr).length m a ++ μ.2.2.2) ∧ sb_I (lr_note p wt re st ho rs si en tr) m a) rfl (if_pos rfl) (fun v M h => ⟨b, M, by rw [h.1]; exact congrArg (fun z => some (Value.ref z)) (if_pos rfl), h.2, sb_ws_ax⟩) (s_X4_writeNote μ hl hN)
