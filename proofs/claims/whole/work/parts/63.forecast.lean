/-! the class: the forecast -/
/-- the class's search: of n days to come, k are tried; t tries so far -/
def lr_fcs (g : Nat → Int32) (l : Nat) : Nat → Nat → Nat → Int32
  | 0, _, _ => -1
  | n + 1, k, t => if (lr_oc g l (nI (lr_n g 0 + k)) = 0 ∨ (lr_oc g l (nI (lr_n g 0 + k)) = 3 ∧ t + 1 < 3)) ∧ lr_old g l (nI (lr_n g 0 + k)) = false then lr_fcs g l n (k + 1) (t + if lr_oc g l (nI (lr_n g 0 + k)) = 3 then 1 else 0) else nI (k + 1)
set_option maxHeartbeats 4000000 in
set_option maxRecDepth 100000 in
theorem e_X5_forecast {g : Nat → Int32} {l t d k : Nat} (P : Option Value → pm_Mm → Prop) (μ : pm_Mm) (hR : lr_Rel μ.1 1 g) (hG : lr_G g) (hl : l < lr_n g 289) (hd : d = 365) (K : P (some (.int (-1))) μ) : pm_V mi_X5_forecast (P, pm_NX, fun _ _ _ => True) 0 0 15 [some (.ref 1), some (.int (nI l)), some (.int (nI t)), some (.int (nI d)), none, none] [] μ := by
  refine pm_bl [(.iload_n 3, 1, 3, 0, 0), (.sipush 365, 3, 0, 0, 365)] (pc1 := 19) (lo1 := [some (.ref 1), some (.int (nI l)), some (.int (nI t)), some (.int (nI d)), none, none]) (st1 := [.int 365, .int (nI d)]) (μ1 := μ) (vc := True) rfl (by decide +kernel) rfl trivial ?_
  refine pm_icmp_ge (off := 77) 96 (by decide +kernel) (by decide) (fun (h19 : 365 ≤ (nI d)) => ?_) (fun (h9 : ¬ (365 ≤ (nI d))) => absurd (nI_le (a := 365) (by omega) (by omega)) h9)
  refine pm_bl [(.iconst (-1), 1, 0, 0, (-1))] (pc1 := 97) (lo1 := [some (.ref 1), some (.int (nI l)), some (.int (nI t)), some (.int (nI d)), none, none]) (st1 := [.int (-1)]) (μ1 := μ) (vc := True) rfl (by decide +kernel) rfl trivial ?_
  exact pm_iret (ty := .int) rfl rfl (by decide) (by decide) (by decide +kernel) K
set_option maxHeartbeats 4000000 in
set_option maxRecDepth 100000 in
theorem s_X5_forecast {g : Nat → Int32} {l t d k : Nat} (P : Option Value → pm_Mm → Prop) (μ : pm_Mm) (hR : lr_Rel μ.1 1 g) (hG : lr_G g) (hl : l < lr_n g 289) (hd : d = lr_n g 0 + k) (hd2 : d < 365) (ht : t ≤ 2) (K : (lr_oc g l (nI d) = 0 ∨ (lr_oc g l (nI d) = 3 ∧ t + 1 < 3)) → lr_old g l (nI d) = false → pm_V mi_X5_forecast (P, pm_NX, fun _ _ _ => True) 0 0 15 [some (.ref 1), some (.int (nI l)), some (.int (nI (t + if lr_oc g l (nI d) = 3 then 1 else 0))), some (.int (nI (d + 1))), none, none] [] μ) (KE : ¬ ((lr_oc g l (nI d) = 0 ∨ (lr_oc g l (nI d) = 3 ∧ t + 1 < 3)) ∧ lr_old g l (nI d) = false) → P (some (.int (nI (k + 1)))) μ) : pm_V mi_X5_forecast (P, pm_NX, fun _ _ _ => True) 0 0 15 [some (.ref 1), some (.int (nI l)), some (.int (nI t)), some (.int (nI d)), none, none] [] μ := by
  have hm1 := lr_mh hG; have hm2 := lr_mw hG; have hm3 := lr_mp hG; have hm4 := lr_mr hG; have hm5 := lr_ma hG; have hm6 := lr_ml hG
  have hT := lr_gT hG
  refine pm_bl [(.iload_n 3, 1, 3, 0, 0), (.sipush 365, 3, 0, 0, 365)] (pc1 := 19) (lo1 := [some (.ref 1), some (.int (nI l)), some (.int (nI t)), some (.int (nI d)), none, none]) (st1 := [.int 365, .int (nI d)]) (μ1 := μ) (vc := True) rfl (by decide +kernel) rfl trivial ?_
  refine pm_icmp_ge (off := 77) 96 (by decide +kernel) (by decide) (fun (h9 : 365 ≤ (nI d)) => absurd h9 (nI_ge (b := 365) hd2 (by omega))) (fun (h19 : ¬ (365 ≤ (nI d))) => ?_)
  refine pm_bl [(.aload_n 0, 1, 0, 0, 0), (.iload_n 1, 1, 1, 0, 0), (.iload_n 3, 1, 3, 0, 0)] (pc1 := 25) (lo1 := [some (.ref 1), some (.int (nI l)), some (.int (nI t)), some (.int (nI d)), none, none]) (st1 := [.int (nI d), .int (nI l), .ref 1]) (μ1 := μ) (vc := True) rfl (by decide +kernel) rfl trivial ?_
  refine pm_callV2 mi_X5_outcome (ix := 152) (b := 1) (ci := 5) (kc2 := 0) (ks2 := 0) (As := [.int (nI l), .int (nI d)]) (rest := []) (c_X5_outcome (j := l) (nI d) μ hR hG hl) cal_X5_outcome lk5_152 (by decide +kernel) rfl (by decide +kernel) rfl rfl rfl rfl (Nat.le_of_ble_eq_true rfl) (by decide) (by decide) (fun _ _ h9 => h9.elim) ?_
  rintro _ _ ⟨rfl, h9⟩; rw [h9]; clear h9
  show pm_V _ _ _ _ 28 _ [.int (lr_oc g l (nI d))] _
  refine pm_bl [(.istore 4, 2, 4, 0, 0)] (pc1 := 30) (lo1 := [some (.ref 1), some (.int (nI l)), some (.int (nI t)), some (.int (nI d)), some (.int (lr_oc g l (nI d))), none]) (st1 := []) (μ1 := μ) (vc := True) rfl (by decide +kernel) rfl trivial ?_
  have ho := lr_oc_ok g l (nI d)
  obtain ⟨r, hr0⟩ : ∃ r, lr_oc g l (nI d) = r := ⟨_, rfl⟩
  rw [hr0] at K KE ho ⊢
  have hsub : nI d - nI (lr_n g 0) + 1 = nI (k + 1) := by rw [nI_subN (by omega), nI_1]; congr 1; omega
  by_cases h0 : r = 0
  · subst h0
    refine pm_bl [(.iload_n 2, 1, 2, 0, 0), (.iload 4, 2, 4, 0, 0), (.iconst 3, 1, 0, 0, 3)] (pc1 := 34) (lo1 := [some (.ref 1), some (.int (nI l)), some (.int (nI t)), some (.int (nI d)), some (.int 0), none]) (st1 := [.int 3, .int 0, .int (nI t)]) (μ1 := μ) (vc := True) rfl (by decide +kernel) rfl trivial ?_
    refine pm_icmp_ne (off := 7) 41 (by decide +kernel) (by decide) (fun _ => ?_) (fun h9 => absurd h9 (by decide))
    refine pm_bl [(.iconst 0, 1, 0, 0, 0), (.iadd, 1, 0, 0, 0), (.istore_n 2, 1, 2, 0, 0), (.iload 4, 2, 4, 0, 0)] (pc1 := 46) (lo1 := [some (.ref 1), some (.int (nI l)), some (.int ((nI t) + 0)), some (.int (nI d)), some (.int 0), none]) (st1 := [.int 0]) (μ1 := μ) (vc := True) rfl (by decide +kernel) rfl trivial ?_
    refine pm_if_eq (off := 14) 60 (by decide +kernel) (by decide) (fun _ => ?_) (fun h9 => absurd h9 (by decide))
    refine pm_bl [(.iconst 1, 1, 0, 0, 1), (.goto 4, 3, 65, 0, 0), (.istore 5, 2, 5, 0, 0), (.iload 5, 2, 5, 0, 0)] (pc1 := 69) (lo1 := [some (.ref 1), some (.int (nI l)), some (.int ((nI t) + 0)), some (.int (nI d)), some (.int 0), some (.int 1)]) (st1 := [.int 1]) (μ1 := μ) (vc := True) rfl (by decide +kernel) rfl trivial ?_
    refine pm_if_eq (off := 12) 81 (by decide +kernel) (by decide) (fun h9 => absurd h9 (by decide)) (fun _ => ?_)
    refine pm_bl [(.aload_n 0, 1, 0, 0, 0), (.iload_n 1, 1, 1, 0, 0), (.iload_n 3, 1, 3, 0, 0)] (pc1 := 75) (lo1 := [some (.ref 1), some (.int (nI l)), some (.int ((nI t) + 0)), some (.int (nI d)), some (.int 0), some (.int 1)]) (st1 := [.int (nI d), .int (nI l), .ref 1]) (μ1 := μ) (vc := True) rfl (by decide +kernel) rfl trivial ?_
    refine pm_callV2 mi_X5_isTooOld (ix := 155) (b := 1) (ci := 5) (kc2 := 0) (ks2 := 0) (As := [.int (nI l), .int (nI d)]) (rest := []) (c_X5_isTooOld (j := l) (nI d) μ hR hG hl) cal_X5_isTooOld lk5_155 (by decide +kernel) rfl (by decide +kernel) rfl rfl rfl rfl (Nat.le_of_ble_eq_true rfl) (by decide) (by decide) (fun _ _ h9 => h9.elim) ?_
    rintro _ _ ⟨rfl, h9⟩; rw [h9]; clear h9
    show pm_V _ _ _ _ 78 _ [.int (lr_b (lr_old g l (nI d)))] _
    refine pm_ifb_eq (off := 12) 90 (by decide +kernel) (by decide) (fun (h78 : (lr_old g l (nI d)) = false) => ?_) (fun (h78 : (lr_old g l (nI d)) = true) => ?_)
    · refine pm_bl [(.iinc 3 1, 3, 3, 0, 1), (.goto (-78), 3, 15, 0, 0)] (pc1 := 15) (lo1 := [some (.ref 1), some (.int (nI l)), some (.int ((nI t) + 0)), some (.int ((nI d) + 1)), some (.int 0), some (.int 1)]) (st1 := []) (μ1 := μ) (vc := True) rfl (by decide +kernel) rfl trivial ?_
      rw [nI_1, Int32.add_zero]; exact pm_V.drop (lo' := [some (.ref 1), some (.int (nI l)), some (.int (nI t)), some (.int (nI (d + 1))), none, none]) ⟨rfl, rfl, rfl, rfl, trivial⟩ (K (Or.inl rfl) h78)
    · refine pm_bl [(.iload_n 3, 1, 3, 0, 0), (.aload_n 0, 1, 0, 0, 0), (.getfield 53, 3, 5, 6, 0)] (pc1 := 86) (lo1 := [some (.ref 1), some (.int (nI l)), some (.int ((nI t) + 0)), some (.int (nI d)), some (.int 0), some (.int 1)]) (st1 := [.int (μ.1 1 6), .int (nI d)]) (μ1 := μ) (vc := True) rfl (by decide +kernel) rfl trivial ?_
      rw [lr_rT hR, lr_gT hG]
      refine pm_bl [(.isub, 1, 0, 0, 0), (.iconst 1, 1, 0, 0, 1), (.iadd, 1, 0, 0, 0)] (pc1 := 89) (lo1 := [some (.ref 1), some (.int (nI l)), some (.int ((nI t) + 0)), some (.int (nI d)), some (.int 0), some (.int 1)]) (st1 := [.int (((nI d) - (nI (lr_n g 0))) + 1)]) (μ1 := μ) (vc := True) rfl (by decide +kernel) rfl trivial ?_
      exact pm_iret (ty := .int) rfl rfl (by decide) (by decide) (by decide +kernel) (by rw [hsub]; exact KE (fun e => by rw [e.2] at h78; exact absurd h78 (by decide)))
  by_cases h3 : r = 3
  · subst h3
    refine pm_bl [(.iload_n 2, 1, 2, 0, 0), (.iload 4, 2, 4, 0, 0), (.iconst 3, 1, 0, 0, 3)] (pc1 := 34) (lo1 := [some (.ref 1), some (.int (nI l)), some (.int (nI t)), some (.int (nI d)), some (.int 3), none]) (st1 := [.int 3, .int 3, .int (nI t)]) (μ1 := μ) (vc := True) rfl (by decide +kernel) rfl trivial ?_
    refine pm_icmp_ne (off := 7) 41 (by decide +kernel) (by decide) (fun h9 => absurd h9 (by decide)) (fun _ => ?_)
    refine pm_bl [(.iconst 1, 1, 0, 0, 1), (.goto 4, 3, 42, 0, 0), (.iadd, 1, 0, 0, 0)] (pc1 := 43) (lo1 := [some (.ref 1), some (.int (nI l)), some (.int (nI t)), some (.int (nI d)), some (.int 3), none]) (st1 := [.int ((nI t) + 1)]) (μ1 := μ) (vc := True) rfl (by decide +kernel) rfl trivial ?_
    rw [nI_1]
    refine pm_bl [(.istore_n 2, 1, 2, 0, 0), (.iload 4, 2, 4, 0, 0)] (pc1 := 46) (lo1 := [some (.ref 1), some (.int (nI l)), some (.int (nI (t + 1))), some (.int (nI d)), some (.int 3), none]) (st1 := [.int 3]) (μ1 := μ) (vc := True) rfl (by decide +kernel) rfl trivial ?_
    refine pm_if_eq (off := 14) 60 (by decide +kernel) (by decide) (fun h9 => absurd h9 (by decide)) (fun _ => ?_)
    refine pm_bl [(.iload 4, 2, 4, 0, 0), (.iconst 3, 1, 0, 0, 3)] (pc1 := 52) (lo1 := [some (.ref 1), some (.int (nI l)), some (.int (nI (t + 1))), some (.int (nI d)), some (.int 3), none]) (st1 := [.int 3, .int 3]) (μ1 := μ) (vc := True) rfl (by decide +kernel) rfl trivial ?_
    refine pm_icmp_ne (off := 12) 64 (by decide +kernel) (by decide) (fun h9 => absurd h9 (by decide)) (fun _ => ?_)
    refine pm_bl [(.iload_n 2, 1, 2, 0, 0), (.iconst 3, 1, 0, 0, 3)] (pc1 := 57) (lo1 := [some (.ref 1), some (.int (nI l)), some (.int (nI (t + 1))), some (.int (nI d)), some (.int 3), none]) (st1 := [.int 3, .int (nI (t + 1))]) (μ1 := μ) (vc := True) rfl (by decide +kernel) rfl trivial ?_
    refine pm_icmp_ge (off := 7) 64 (by decide +kernel) (by decide) (fun (h57 : 3 ≤ (nI (t + 1))) => ?_) (fun (h57 : ¬ (3 ≤ (nI (t + 1)))) => ?_)
    · refine pm_bl [(.iconst 0, 1, 0, 0, 0), (.istore 5, 2, 5, 0, 0), (.iload 5, 2, 5, 0, 0)] (pc1 := 69) (lo1 := [some (.ref 1), some (.int (nI l)), some (.int (nI (t + 1))), some (.int (nI d)), some (.int 3), some (.int 0)]) (st1 := [.int 0]) (μ1 := μ) (vc := True) rfl (by decide +kernel) rfl trivial ?_
      refine pm_if_eq (off := 12) 81 (by decide +kernel) (by decide) (fun _ => ?_) (fun h9 => absurd h9 (by decide))
      refine pm_bl [(.iload_n 3, 1, 3, 0, 0), (.aload_n 0, 1, 0, 0, 0), (.getfield 53, 3, 5, 6, 0)] (pc1 := 86) (lo1 := [some (.ref 1), some (.int (nI l)), some (.int (nI (t + 1))), some (.int (nI d)), some (.int 3), some (.int 0)]) (st1 := [.int (μ.1 1 6), .int (nI d)]) (μ1 := μ) (vc := True) rfl (by decide +kernel) rfl trivial ?_
      rw [lr_rT hR, lr_gT hG]
      refine pm_bl [(.isub, 1, 0, 0, 0), (.iconst 1, 1, 0, 0, 1), (.iadd, 1, 0, 0, 0)] (pc1 := 89) (lo1 := [some (.ref 1), some (.int (nI l)), some (.int (nI (t + 1))), some (.int (nI d)), some (.int 3), some (.int 0)]) (st1 := [.int (((nI d) - (nI (lr_n g 0))) + 1)]) (μ1 := μ) (vc := True) rfl (by decide +kernel) rfl trivial ?_
      exact pm_iret (ty := .int) rfl rfl (by decide) (by decide) (by decide +kernel) (by rw [hsub]; exact KE (fun e => by first | (rw [e.2] at h78; exact absurd h78 (by decide)) | (exact h57 (nI_ge (a := t + 1) (b := 3) (show t + 1 < 3 by rcases e.1 with q | q; exact absurd q (by decide); exact q.2) (by omega))) | (exact absurd h57 (nI_ge (a := t + 1) (b := 3) (show t + 1 < 3 by rcases e.1 with q | q; exact absurd q (by decide); exact q.2) (by omega)))))
    · refine pm_bl [(.iconst 1, 1, 0, 0, 1), (.goto 4, 3, 65, 0, 0), (.istore 5, 2, 5, 0, 0), (.iload 5, 2, 5, 0, 0)] (pc1 := 69) (lo1 := [some (.ref 1), some (.int (nI l)), some (.int (nI (t + 1))), some (.int (nI d)), some (.int 3), some (.int 1)]) (st1 := [.int 1]) (μ1 := μ) (vc := True) rfl (by decide +kernel) rfl trivial ?_
      refine pm_if_eq (off := 12) 81 (by decide +kernel) (by decide) (fun h9 => absurd h9 (by decide)) (fun _ => ?_)
      refine pm_bl [(.aload_n 0, 1, 0, 0, 0), (.iload_n 1, 1, 1, 0, 0), (.iload_n 3, 1, 3, 0, 0)] (pc1 := 75) (lo1 := [some (.ref 1), some (.int (nI l)), some (.int (nI (t + 1))), some (.int (nI d)), some (.int 3), some (.int 1)]) (st1 := [.int (nI d), .int (nI l), .ref 1]) (μ1 := μ) (vc := True) rfl (by decide +kernel) rfl trivial ?_
      refine pm_callV2 mi_X5_isTooOld (ix := 155) (b := 1) (ci := 5) (kc2 := 0) (ks2 := 0) (As := [.int (nI l), .int (nI d)]) (rest := []) (c_X5_isTooOld (j := l) (nI d) μ hR hG hl) cal_X5_isTooOld lk5_155 (by decide +kernel) rfl (by decide +kernel) rfl rfl rfl rfl (Nat.le_of_ble_eq_true rfl) (by decide) (by decide) (fun _ _ h9 => h9.elim) ?_
      rintro _ _ ⟨rfl, h9⟩; rw [h9]; clear h9
      show pm_V _ _ _ _ 78 _ [.int (lr_b (lr_old g l (nI d)))] _
      refine pm_ifb_eq (off := 12) 90 (by decide +kernel) (by decide) (fun (h78 : (lr_old g l (nI d)) = false) => ?_) (fun (h78 : (lr_old g l (nI d)) = true) => ?_)
      · refine pm_bl [(.iinc 3 1, 3, 3, 0, 1), (.goto (-78), 3, 15, 0, 0)] (pc1 := 15) (lo1 := [some (.ref 1), some (.int (nI l)), some (.int (nI (t + 1))), some (.int ((nI d) + 1)), some (.int 3), some (.int 1)]) (st1 := []) (μ1 := μ) (vc := True) rfl (by decide +kernel) rfl trivial ?_
        rw [nI_1]; exact pm_V.drop (lo' := [some (.ref 1), some (.int (nI l)), some (.int (nI (t + 1))), some (.int (nI (d + 1))), none, none]) ⟨rfl, rfl, rfl, rfl, trivial⟩ (K (Or.inr ⟨rfl, by have := (nJ_lt (b := 3) (by omega) (by omega)).mp (Int32.not_le.mp h57); omega⟩) h78)
      · refine pm_bl [(.iload_n 3, 1, 3, 0, 0), (.aload_n 0, 1, 0, 0, 0), (.getfield 53, 3, 5, 6, 0)] (pc1 := 86) (lo1 := [some (.ref 1), some (.int (nI l)), some (.int (nI (t + 1))), some (.int (nI d)), some (.int 3), some (.int 1)]) (st1 := [.int (μ.1 1 6), .int (nI d)]) (μ1 := μ) (vc := True) rfl (by decide +kernel) rfl trivial ?_
        rw [lr_rT hR, lr_gT hG]
        refine pm_bl [(.isub, 1, 0, 0, 0), (.iconst 1, 1, 0, 0, 1), (.iadd, 1, 0, 0, 0)] (pc1 := 89) (lo1 := [some (.ref 1), some (.int (nI l)), some (.int (nI (t + 1))), some (.int (nI d)), some (.int 3), some (.int 1)]) (st1 := [.int (((nI d) - (nI (lr_n g 0))) + 1)]) (μ1 := μ) (vc := True) rfl (by decide +kernel) rfl trivial ?_
        exact pm_iret (ty := .int) rfl rfl (by decide) (by decide) (by decide +kernel) (by rw [hsub]; exact KE (fun e => by first | (rw [e.2] at h78; exact absurd h78 (by decide)) | (exact h57 (nI_ge (a := t + 1) (b := 3) (show t + 1 < 3 by rcases e.1 with q | q; exact absurd q (by decide); exact q.2) (by omega))) | (exact absurd h57 (nI_ge (a := t + 1) (b := 3) (show t + 1 < 3 by rcases e.1 with q | q; exact absurd q (by decide); exact q.2) (by omega)))))
  refine pm_bl [(.iload_n 2, 1, 2, 0, 0), (.iload 4, 2, 4, 0, 0), (.iconst 3, 1, 0, 0, 3)] (pc1 := 34) (lo1 := [some (.ref 1), some (.int (nI l)), some (.int (nI t)), some (.int (nI d)), some (.int r), none]) (st1 := [.int 3, .int r, .int (nI t)]) (μ1 := μ) (vc := True) rfl (by decide +kernel) rfl trivial ?_
  refine pm_icmp_ne (off := 7) 41 (by decide +kernel) (by decide) (fun (h34 : ¬ r = 3) => ?_) (fun (h9 : r = 3) => absurd h9 h3)
  refine pm_bl [(.iconst 0, 1, 0, 0, 0), (.iadd, 1, 0, 0, 0), (.istore_n 2, 1, 2, 0, 0), (.iload 4, 2, 4, 0, 0)] (pc1 := 46) (lo1 := [some (.ref 1), some (.int (nI l)), some (.int ((nI t) + 0)), some (.int (nI d)), some (.int r), none]) (st1 := [.int r]) (μ1 := μ) (vc := True) rfl (by decide +kernel) rfl trivial ?_
  refine pm_if_eq (off := 14) 60 (by decide +kernel) (by decide) (fun (h9 : r = 0) => absurd h9 h0) (fun (h46 : ¬ (r = 0)) => ?_)
  refine pm_bl [(.iload 4, 2, 4, 0, 0), (.iconst 3, 1, 0, 0, 3)] (pc1 := 52) (lo1 := [some (.ref 1), some (.int (nI l)), some (.int ((nI t) + 0)), some (.int (nI d)), some (.int r), none]) (st1 := [.int 3, .int r]) (μ1 := μ) (vc := True) rfl (by decide +kernel) rfl trivial ?_
  refine pm_icmp_ne (off := 12) 64 (by decide +kernel) (by decide) (fun (h52 : ¬ r = 3) => ?_) (fun (h9 : r = 3) => absurd h9 h3)
  refine pm_bl [(.iconst 0, 1, 0, 0, 0), (.istore 5, 2, 5, 0, 0), (.iload 5, 2, 5, 0, 0)] (pc1 := 69) (lo1 := [some (.ref 1), some (.int (nI l)), some (.int ((nI t) + 0)), some (.int (nI d)), some (.int r), some (.int 0)]) (st1 := [.int 0]) (μ1 := μ) (vc := True) rfl (by decide +kernel) rfl trivial ?_
  refine pm_if_eq (off := 12) 81 (by decide +kernel) (by decide) (fun _ => ?_) (fun h9 => absurd h9 (by decide))
  refine pm_bl [(.iload_n 3, 1, 3, 0, 0), (.aload_n 0, 1, 0, 0, 0), (.getfield 53, 3, 5, 6, 0)] (pc1 := 86) (lo1 := [some (.ref 1), some (.int (nI l)), some (.int ((nI t) + 0)), some (.int (nI d)), some (.int r), some (.int 0)]) (st1 := [.int (μ.1 1 6), .int (nI d)]) (μ1 := μ) (vc := True) rfl (by decide +kernel) rfl trivial ?_
  rw [lr_rT hR, lr_gT hG]
  refine pm_bl [(.isub, 1, 0, 0, 0), (.iconst 1, 1, 0, 0, 1), (.iadd, 1, 0, 0, 0)] (pc1 := 89) (lo1 := [some (.ref 1), some (.int (nI l)), some (.int ((nI t) + 0)), some (.int (nI d)), some (.int r), some (.int 0)]) (st1 := [.int (((nI d) - (nI (lr_n g 0))) + 1)]) (μ1 := μ) (vc := True) rfl (by decide +kernel) rfl trivial ?_
  exact pm_iret (ty := .int) rfl rfl (by decide) (by decide) (by decide +kernel) (by rw [hsub]; exact KE (fun e => by rcases e.1 with q | q; exact h0 q; exact h3 q.1))
set_option maxHeartbeats 4000000 in
set_option maxRecDepth 100000 in
theorem c_X5_forecast {g : Nat → Int32} {l t : Nat} (μ : pm_Mm) (hR : lr_Rel μ.1 1 g) (hG : lr_G g) (hl : l < lr_n g 289) (ht : g (297 + 11 * l) = nI t) (ht2 : t ≤ 2) : pm_CT mi_X5_forecast [.ref 1, .int (nI l)] μ (fun v μ2 => v = some (.int (lr_fcs g l (365 - lr_n g 0) 0 t)) ∧ μ2 = μ) pm_NX := by
  refine pm_CT_of (lo := [some (.ref 1), some (.int (nI l)), none, none, none, none]) (by decide +kernel) rfl rfl (by intro v hv; simp at hv; rcases hv with rfl | rfl <;> rfl) (Nat.le_of_ble_eq_true rfl) rfl ?_
  have hm1 := lr_mh hG; have hm2 := lr_mw hG; have hm3 := lr_mp hG; have hm4 := lr_mr hG; have hm5 := lr_ma hG; have hm6 := lr_ml hG
  obtain ⟨t9, e9⟩ : ∃ t9, t9 = t := ⟨_, rfl⟩
  rw [← e9]
  have hT := lr_gT hG
  have mT := lr_mT hG
  have h1 : ∀ n k t : Nat, lr_n g 0 + k + n = 365 → t ≤ 2 → lr_fcs g l n k t = lr_fcs g l (365 - lr_n g 0) 0 t9 → pm_V mi_X5_forecast ((fun v μ2 => v = some (.int (lr_fcs g l (365 - lr_n g 0) 0 t9)) ∧ μ2 = μ), pm_NX, fun _ _ _ => True) 0 0 15 [some (.ref 1), some (.int (nI l)), some (.int (nI t)), some (.int (nI (lr_n g 0 + k))), none, none] [] μ := by
    intro n
    induction n with
    | zero =>
      intro k t hk ht he
      exact e_X5_forecast (k := 0) _ μ hR hG hl (by omega) ⟨by rw [← he]; rfl, rfl⟩
    | succ n ih =>
      intro k t hk ht he
      simp only [lr_fcs] at he
      refine s_X5_forecast (k := k) _ μ hR hG hl rfl (by omega) ht (fun h1 h2 => ?_) (fun h => ?_)
      · rw [if_pos ⟨h1, h2⟩] at he
        exact ih (k + 1) _ (by omega) (by rcases h1 with q | q; rw [if_neg (by rw [q]; decide)]; exact ht; rw [if_pos q.1]; omega) he
      · rw [if_neg h] at he
        exact ⟨by rw [← he], rfl⟩
  refine pm_bl [(.aload_n 0, 1, 0, 0, 0), (.getfield 49, 3, 5, 5, 0), (.getfield 149, 3, 4, 9, 0), (.iload_n 1, 1, 1, 0, 0), (.iaload, 1, 0, 0, 0)] (pc1 := 9) (lo1 := [some (.ref 1), some (.int (nI l)), none, none, none, none]) (st1 := [.int (μ.1 34 (nI l).toNatClampNeg)]) (μ1 := μ) (vc := vp_in (nI l) 30 ∧ True) rfl (by decide +kernel) rfl ⟨(vp_in_nI (by omega) (by omega)), trivial⟩ ?_
  first | rw [nI_clamp (n := l) (by omega), lr_rltr hR hl, ht] | rw [lr_rltr hR hl, ht]
  refine pm_bl [(.istore_n 2, 1, 2, 0, 0), (.aload_n 0, 1, 0, 0, 0), (.getfield 53, 3, 5, 6, 0)] (pc1 := 14) (lo1 := [some (.ref 1), some (.int (nI l)), some (.int (nI t)), none, none, none]) (st1 := [.int (μ.1 1 6)]) (μ1 := μ) (vc := True) rfl (by decide +kernel) rfl trivial ?_
  rw [lr_rT hR, lr_gT hG]
  refine pm_bl [(.istore_n 3, 1, 3, 0, 0)] (pc1 := 15) (lo1 := [some (.ref 1), some (.int (nI l)), some (.int (nI t)), some (.int (nI (lr_n g 0))), none, none]) (st1 := []) (μ1 := μ) (vc := True) rfl (by decide +kernel) rfl trivial ?_
  exact h1 (365 - lr_n g 0) 0 t (by omega) ht2 (by rw [e9])
/-! both forecasts are the same -/
theorem lr_gret_lo {g : Nat → Int32} {l x : Nat} {a b : Int32} (hx : x < 294 + 11 * l) : lr_gret g l a b x = g x := by
  unfold lr_gret; rw [upd_ne (by omega), upd_ne (by omega), upd_ne (by omega)]
theorem lr_look_lo {g : Nat → Int32} {l x : Nat} (hx : x < 294 + 11 * l) : lr_look g l x = g x := by
  unfold lr_look
  repeat' split
  all_goals first
    | rfl
    | (rw [lr_gret_lo hx]; done)
    | (unfold lr_gdl0; rw [upd_ne (by omega), upd_ne (by omega), upd_ne (by omega), upd_ne (by omega)]; done)
    | (rw [lr_gret_lo hx, upd_ne (by omega)]; done)
    | (rw [upd_ne (by omega)]; done)
theorem lr_one_lo {g : Nat → Int32} {l x : Nat} (hx : x < 294 + 11 * l) : lr_one g l x = g x := by
  have h : lr_st g l x = g x := by
    unfold lr_st; split
    · exact lr_look_lo hx
    · rfl
  unfold lr_one lr_rt; split
  · rw [lr_gret_lo hx, h]
  · exact h
theorem lr_one_w {g : Nat → Int32} {l t : Nat} (hw : g (294 + 11 * l) = 0) (ht : g (297 + 11 * l) = nI t) (ht2 : t ≤ 2) :
    (((lr_oc g l (g 0) = 0 ∨ (lr_oc g l (g 0) = 3 ∧ t + 1 < 3)) ∧ lr_old g l (g 0) = false) → lr_one g l (294 + 11 * l) = 0 ∧ lr_one g l (297 + 11 * l) = nI (t + if lr_oc g l (g 0) = 3 then 1 else 0)) ∧ (¬ ((lr_oc g l (g 0) = 0 ∨ (lr_oc g l (g 0) = 3 ∧ t + 1 < 3)) ∧ lr_old g l (g 0) = false) → ¬ lr_one g l (294 + 11 * l) = 0) := by
  have h2 : ¬ (2 : Int32) = 0 := by decide
  rcases lr_oc_ok g l (g 0) with e | e | e | e | e
  · have hst : lr_st g l = g := by unfold lr_st lr_look; rw [if_pos hw, e, if_pos rfl]
    unfold lr_one lr_rt; rw [hst, e]
    constructor
    · rintro ⟨-, q⟩
      unfold lr_old at q
      have q' : g 0 - g (293 + 11 * l) < 30 := by simpa using q
      rw [if_neg (fun c => c.2 q')]
      exact ⟨hw, by rw [if_neg (by decide)]; exact ht⟩
    · intro q
      rw [if_pos ⟨hw, fun c => q ⟨Or.inl rfl, by unfold lr_old; rw [decide_eq_true c]; rfl⟩⟩, lr_gret_4]; exact h2
  · have hst : lr_st g l = lr_gret g l (g 0) 1 := by unfold lr_st lr_look; rw [if_pos hw, e, if_neg (by decide), if_pos rfl]
    unfold lr_one lr_rt; rw [hst, e, lr_gret_4, if_neg (fun c => h2 c.1), lr_gret_4]
    exact ⟨fun q => by rcases q.1 with c | c; exact absurd c (by decide); exact absurd c.1 (by decide), fun _ => h2⟩
  · have hst : lr_st g l = lr_gret g l (g 0) 2 := by unfold lr_st lr_look; rw [if_pos hw, e, if_neg (by decide), if_neg (by decide), if_pos rfl]
    unfold lr_one lr_rt; rw [hst, e, lr_gret_4, if_neg (fun c => h2 c.1), lr_gret_4]
    exact ⟨fun q => by rcases q.1 with c | c; exact absurd c (by decide); exact absurd c.1 (by decide), fun _ => h2⟩
  · by_cases h3 : t + 1 < 3
    · have hst : lr_st g l = upd g (297 + 11 * l) (nI (t + 1)) := by
        unfold lr_st lr_look; rw [if_pos hw, e, if_neg (by decide), if_neg (by decide), if_neg (by decide), if_neg (by decide), ht, nI_1, if_neg (fun c => by have := (nI_eq (b := 3) (by omega) (by omega)).mp c; omega)]
      unfold lr_one lr_rt; rw [hst, e, upd_ne (by omega), upd_ne (by omega), upd_ne (by omega)]
      constructor
      · rintro ⟨-, q⟩
        unfold lr_old at q
        have q' : g 0 - g (293 + 11 * l) < 30 := by simpa using q
        rw [if_neg (fun c => c.2 q')]
        exact ⟨by rw [upd_ne (by omega)]; exact hw, by rw [if_pos rfl, upd_eq]⟩
      · intro q
        rw [if_pos ⟨hw, fun c => q ⟨Or.inr ⟨rfl, h3⟩, by unfold lr_old; rw [decide_eq_true c]; rfl⟩⟩, lr_gret_4]; exact h2
    · have hst : lr_st g l = lr_gret (upd g (297 + 11 * l) (nI (t + 1))) l (g 0) 3 := by
        unfold lr_st lr_look; rw [if_pos hw, e, if_neg (by decide), if_neg (by decide), if_neg (by decide), if_neg (by decide), ht, nI_1, if_pos (by rw [show t + 1 = 3 by omega]; rfl)]
      unfold lr_one lr_rt; rw [hst, e, lr_gret_4, if_neg (fun c => h2 c.1), lr_gret_4]
      exact ⟨fun q => by rcases q.1 with c | c; exact absurd c (by decide); exact absurd c.2 h3, fun _ => h2⟩
  · have hd : lr_due g l = true := by unfold lr_due; rw [decide_eq_true hw, decide_eq_true e]; rfl
    rw [lr_one_due hd, e, lr_gdl0_4]
    exact ⟨fun q => by rcases q.1 with c | c; exact absurd c (by decide); exact absurd c.1 (by decide), fun _ => by decide⟩
theorem lr_day_at {g : Nat → Int32} (hG : lr_G g) {l x : Nat} (hl : l < lr_n g 289) (h1 : 290 + 11 * l ≤ x) (h2 : x < 300 + 11 * l) : lr_day g x = lr_one g l x := by
  rw [lr_day_o (by omega) (by omega) (fun s _ => by omega)]; exact (lr_pab_at hG hl).at_ h1 (by omega)
theorem lr_days_sm {g : Nat → Int32} : ∀ k, lr_Sm g (lr_days g k) := by
  intro k
  induction k with
  | zero => exact lr_Sm.rf
  | succ k ih => exact ih.tr lr_day_sm
theorem lr_fcs_lft {g : Nat → Int32} (hI : lr_I g) {l : Nat} (hl : l < lr_n g 289) : ∀ n k t : Nat, lr_n g 0 + k + n = 365 → lr_days g k (294 + 11 * l) = 0 → lr_days g k (297 + 11 * l) = nI t → t ≤ 2 → (∀ x, 290 + 11 * l ≤ x → x < 294 + 11 * l → lr_days g k x = g x) → lr_fcs g l n k t = lr_lft g l n k := by
  have hG := hI.1
  intro n
  induction n with
  | zero => intro k t hk hw ht ht2 hx; simp only [lr_fcs, lr_lft]; rw [if_pos hw]
  | succ n ih =>
    intro k t hk hw ht ht2 hx
    obtain ⟨hIk, hTk⟩ := lr_days_I hI k (by omega)
    have hGk := hIk.1
    have hlk : l < lr_n (lr_days g k) 289 := by rw [lr_days_n (by omega) (by omega)]; exact hl
    have e0 : lr_days g k 0 = nI (lr_n g 0 + k) := by rw [← hTk]; exact lr_gT hGk
    have eo : lr_oc (lr_days g k) l (lr_days g k 0) = lr_oc g l (nI (lr_n g 0 + k)) := by
      rw [e0]; exact (lr_days_sm k).oc hG hl (hx _ (by omega) (by omega)) (hx _ (by omega) (by omega)) (hx _ (by omega) (by omega)) _
    have ed : lr_old (lr_days g k) l (lr_days g k 0) = lr_old g l (nI (lr_n g 0 + k)) := by
      unfold lr_old; rw [e0, hx _ (by omega) (by omega)]
    have q := lr_one_w hw ht ht2
    rw [eo, ed] at q
    have d4 := lr_day_at hGk hlk (x := 294 + 11 * l) (by omega) (by omega)
    have d7 := lr_day_at hGk hlk (x := 297 + 11 * l) (by omega) (by omega)
    simp only [lr_fcs, lr_lft]
    rw [if_pos hw]
    by_cases hc : (lr_oc g l (nI (lr_n g 0 + k)) = 0 ∨ (lr_oc g l (nI (lr_n g 0 + k)) = 3 ∧ t + 1 < 3)) ∧ lr_old g l (nI (lr_n g 0 + k)) = false
    · rw [if_pos hc]
      obtain ⟨q1, q2⟩ := q.1 hc
      refine ih (k + 1) _ (by omega) (d4.trans q1) (d7.trans q2) ?_ (fun x h1 h2 => ?_)
      · rcases hc.1 with c | c
        · rw [if_neg (by rw [c]; decide)]; exact ht2
        · rw [if_pos c.1]; omega
      · rw [← hx x h1 h2]
        exact (lr_day_at hGk hlk h1 (by omega)).trans (lr_one_lo h2)
    · rw [if_neg hc]
      have q1 : ¬ lr_days g (k + 1) (294 + 11 * l) = 0 := fun e => q.2 hc (d4.symm.trans e)
      cases n with
      | zero => simp only [lr_lft]; rw [if_neg q1]
      | succ n => simp only [lr_lft]; rw [if_neg q1]
