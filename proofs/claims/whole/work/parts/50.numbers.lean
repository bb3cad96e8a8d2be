/-! the model: the letters handed over get their numbers -/
/-- letter s was handed over in a house that a walk serves -/
def lr_Dl (g : Nat → Int32) (s : Nat) : Prop := s < lr_n g 289 ∧ ∃ x u, g (298 + 11 * s) = nI x ∧ x < lr_n g 2 ∧ u < lr_n g 116 ∧ lr_sv g x = nI u
def lr_ah (g : Nat → Int32) (a b : Nat) : Bool := lr_ahx g a b (lr_n g (298 + 11 * a)) (lr_n g (298 + 11 * b))
theorem c_X10_isAhead2 {g : Nat → Int32} {a b : Nat} (μ : pm_Mm) (hM : μ.1 48 = g) (hG : lr_G g) (ha : lr_Dl g a) (hb : lr_Dl g b) : pm_CT mi_X10_isAhead [.ref 47, .int (nI a), .int (nI b)] μ (fun v μ2 => v = some (.int (lr_b (lr_ah g a b))) ∧ μ2 = μ) pm_NX := by
  obtain ⟨h1, x, u, hx, hx2, hu, hxu⟩ := ha
  obtain ⟨h2, y, v1, hy, hy2, hv, hyv⟩ := hb
  have m1 := lr_mh hG
  have e1 : lr_n g (298 + 11 * a) = x := by unfold lr_n; rw [hx]; exact nI_clamp (by omega)
  have e2 : lr_n g (298 + 11 * b) = y := by unfold lr_n; rw [hy]; exact nI_clamp (by omega)
  unfold lr_ah
  rw [e1, e2]
  exact c_X10_isAhead μ hM hG h1 h2 hx hx2 hy hy2 hu hv hxu hyv
/-- S lists the letters handed over and without a number, the one ahead first -/
def lr_Srt (g : Nat → Int32) (S : List Nat) : Prop := (∀ l, l < lr_n g 289 → (lr_nw g l = true ↔ l ∈ S)) ∧ (∀ s, s ∈ S → lr_Dl g s) ∧ S.Pairwise (fun a b => lr_ah g a b = true ∧ lr_ah g b a = false)
def lr_num1 (g : Nat → Int32) (s : Nat) : Nat → Int32 := upd (upd g (300 + 11 * s) (g 1)) 1 (g 1 + 1)
def lr_nums (g : Nat → Int32) : List Nat → Nat → Int32
  | [] => g
  | s :: S => lr_nums (lr_num1 g s) S
theorem lr_num1_o {g : Nat → Int32} {s x : Nat} (h1 : x ≠ 1) (h2 : x ≠ 300 + 11 * s) : lr_num1 g s x = g x := by unfold lr_num1; rw [upd_ne h1, upd_ne h2]
theorem lr_num1_1 {g : Nat → Int32} (hG : lr_G g) {s : Nat} : lr_n (lr_num1 g s) 1 = lr_n g 1 + 1 := by
  have m := lr_mD hG
  have e1 : lr_num1 g s 1 = nI (lr_n g 1 + 1) := by unfold lr_num1; rw [upd_eq, lr_gD hG, nI_1]
  show (lr_num1 g s 1).toNatClampNeg = _
  rw [e1, nI_clamp (by omega)]
theorem lr_num1_sm {g : Nat → Int32} {s : Nat} : lr_Sm g (lr_num1 g s) := fun x h1 h2 => lr_num1_o (by omega) (by omega)
theorem lr_num1_G {g : Nat → Int32} (hG : lr_G g) {s : Nat} (hd : lr_n g 1 < 30) : lr_G (lr_num1 g s) := by
  have m6 := lr_ml hG
  have hn : ∀ x, x ≤ 289 → x ≠ 1 → lr_n (lr_num1 g s) x = lr_n g x := fun x hx h1 => by unfold lr_n; rw [lr_num1_o h1 (by omega)]
  have e1 : lr_num1 g s 1 = nI (lr_n g 1 + 1) := by unfold lr_num1; rw [upd_eq, lr_gD hG, nI_1]
  have e1' : lr_n (lr_num1 g s) 1 = lr_n g 1 + 1 := by unfold lr_n; rw [e1, nI_clamp (by omega)]; rfl
  refine hG.lt lr_num1_sm ?_ ?_ ?_ (fun i hi => ?_)
  · rw [hn 0 (by omega) (by omega), lr_num1_o (by omega) (by omega)]; exact hG.1
  · rw [e1', e1]; exact ⟨rfl, by omega⟩
  · rw [hn 289 (by omega) (by omega), lr_num1_o (by omega) (by omega)]; exact hG.2.2.2.2.2.2.2.1
  · rw [hn 289 (by omega) (by omega)] at hi
    by_cases e : i = s
    · subst e
      have h := lr_Lc_of hG hi
      unfold lr_Lc at h ⊢
      rw [hn 35 (by omega) (by omega), hn 0 (by omega) (by omega), lr_num1_o (by omega) (by omega), lr_num1_o (by omega) (by omega), lr_num1_o (by omega) (by omega), lr_num1_o (by omega) (by omega), lr_num1_o (by omega) (by omega), lr_num1_o (by omega) (by omega), lr_num1_o (by omega) (by omega), lr_num1_o (by omega) (by omega), lr_num1_o (by omega) (by omega), lr_num1_o (by omega) (by omega)]
      obtain ⟨k1, k2, k3, k4, k5, k6, k7, k8, k9, k10, -⟩ := h
      exact ⟨k1, k2, k3, k4, k5, k6, k7, k8, k9, k10, ⟨lr_n g 1 + 1, by unfold lr_num1; rw [upd_ne (by omega), upd_eq, nI_pred]; exact lr_gD hG, by omega⟩⟩
    · exact (lr_Lc_of hG hi).eq (fun c hc => lr_num1_o (by omega) (by omega)) (hn 35 (by omega) (by omega)) (by rw [hn 0 (by omega) (by omega)]; exact Nat.le_refl _)
theorem lr_Dl.sm {g g2 : Nat → Int32} (hG : lr_G g) (hS : lr_Sm g g2) (hn : lr_n g2 289 = lr_n g 289) {s : Nat} (he : g2 (298 + 11 * s) = g (298 + 11 * s)) (h : lr_Dl g s) : lr_Dl g2 s := by
  obtain ⟨h1, x, u, hx, hx2, hu, hxu⟩ := h
  have m1 := lr_mh hG
  exact ⟨by rw [hn]; exact h1, x, u, by rw [he]; exact hx, by rw [hS.n (by omega) (by omega)]; exact hx2, by rw [hS.n (by omega) (by omega)]; exact hu, by rw [hS.sv hG (by omega)]; exact hxu⟩
theorem lr_ah.sm {g g2 : Nat → Int32} (hG : lr_G g) (hS : lr_Sm g g2) {a b : Nat} (ha : lr_Dl g a) (hb : lr_Dl g b) (e1 : g2 (298 + 11 * a) = g (298 + 11 * a)) (e2 : g2 (298 + 11 * b) = g (298 + 11 * b)) (e3 : g2 (291 + 11 * a) = g (291 + 11 * a)) (e4 : g2 (291 + 11 * b) = g (291 + 11 * b)) : lr_ah g2 a b = lr_ah g a b := by
  obtain ⟨h1, x, u, hx, hx2, hu, hxu⟩ := ha
  obtain ⟨h2, y, v1, hy, hy2, hv, hyv⟩ := hb
  have m1 := lr_mh hG
  have q1 : lr_n g (298 + 11 * a) = x := by unfold lr_n; rw [hx]; exact nI_clamp (by omega)
  have q2 : lr_n g (298 + 11 * b) = y := by unfold lr_n; rw [hy]; exact nI_clamp (by omega)
  have q3 : lr_n g2 (298 + 11 * a) = x := by unfold lr_n; rw [e1, hx]; exact nI_clamp (by omega)
  have q4 : lr_n g2 (298 + 11 * b) = y := by unfold lr_n; rw [e2, hy]; exact nI_clamp (by omega)
  unfold lr_ah lr_ahx
  rw [q1, q2, q3, q4, e3, e4, hS.sv hG (i := x) (by omega), hS.sv hG (i := y) (by omega), hS.sp hG hx2, hS.sp hG hy2]
theorem lr_Srt.tl {g : Nat → Int32} (hG : lr_G g) {s : Nat} {S : List Nat} (h : lr_Srt g (s :: S)) (hd : lr_n g 1 < 30) : lr_Srt (lr_num1 g s) S := by
  obtain ⟨h1, h2, h3⟩ := h
  rw [List.pairwise_cons] at h3
  have m6 := lr_ml hG
  have hn : lr_n (lr_num1 g s) 289 = lr_n g 289 := by unfold lr_n; rw [lr_num1_o (by omega) (by omega)]
  have hs := (h2 s (List.mem_cons_self ..)).1
  have hns : s ∉ S := fun e => by have q := h3.1 s e; rw [q.1] at q; exact absurd q.2 (by decide)
  refine ⟨fun l hl => ?_, fun t ht => ?_, ?_⟩
  · rw [hn] at hl
    by_cases e : l = s
    · subst e
      refine ⟨fun q => ?_, fun q => absurd q hns⟩
      unfold lr_nw at q
      rw [show lr_num1 g l (300 + 11 * l) = nI (lr_n g 1) from by unfold lr_num1; rw [upd_ne (by omega), upd_eq]; exact lr_gD hG, decide_eq_false (nI_pos (by omega)), Bool.and_false] at q
      exact absurd q (by decide)
    · have q : lr_nw (lr_num1 g s) l = lr_nw g l := by unfold lr_nw; rw [lr_num1_o (by omega) (by omega), lr_num1_o (by omega) (by omega)]
      rw [q, h1 l hl, List.mem_cons]
      exact ⟨fun q => q.resolve_left e, Or.inr⟩
  · exact (h2 t (List.mem_cons_of_mem _ ht)).sm hG lr_num1_sm hn (lr_num1_o (by omega) (by omega))
  · refine h3.2.imp_of_mem (fun {a b} ha hb q => ?_)
    have da := h2 a (List.mem_cons_of_mem _ ha); have db := h2 b (List.mem_cons_of_mem _ hb)
    rw [lr_ah.sm hG lr_num1_sm da db (lr_num1_o (by omega) (by omega)) (lr_num1_o (by omega) (by omega)) (lr_num1_o (by omega) (by omega)) (lr_num1_o (by omega) (by omega)), lr_ah.sm hG lr_num1_sm db da (lr_num1_o (by omega) (by omega)) (lr_num1_o (by omega) (by omega)) (lr_num1_o (by omega) (by omega)) (lr_num1_o (by omega) (by omega))]
    exact q
set_option maxHeartbeats 4000000 in
set_option maxRecDepth 100000 in
theorem l_X10_numbers_n {g : Nat → Int32} (P : Option Value → pm_Mm → Prop) (x : Int32) (μ : pm_Mm) (hM : μ.1 48 = g) (hG : lr_G g) (hS : lr_Srt g []) (K : pm_V mi_X10_numbers (P, pm_NX, fun _ _ _ => True) 0 0 53 [some (.ref 47), some (.int x), some (.int (-1)), none] [] μ) : ∀ n k : Nat, k + n = lr_n g 289 → pm_V mi_X10_numbers (P, pm_NX, fun _ _ _ => True) 0 0 12 [some (.ref 47), some (.int x), some (.int (-1)), some (.int (nI k))] [] μ := by
  have hm1 := lr_mh hG; have hm2 := lr_mw hG; have hm3 := lr_mp hG; have hm4 := lr_mr hG; have hm5 := lr_ma hG; have hm6 := lr_ml hG
  intro n
  induction n with
  | zero =>
    intro k hk
    refine pm_bl [(.iload_n 3, 1, 3, 0, 0), (.aload_n 0, 1, 0, 0, 0), (.getfield 7, 3, 10, 0, 0), (.sipush 289, 3, 0, 0, 289), (.iaload, 1, 0, 0, 0)] (pc1 := 21) (lo1 := [some (.ref 47), some (.int x), some (.int (-1)), some (.int (nI k))]) (st1 := [.int (μ.1 48 (289 : Int32).toNatClampNeg), .int (nI k)]) (μ1 := μ) (vc := vp_in 289 620 ∧ True) rfl (by decide +kernel) rfl ⟨(by unfold vp_in; decide), trivial⟩ ?_
    rw [show (289 : Int32).toNatClampNeg = 289 from by decide, hM, lr_gl hG]
    refine pm_icmp_ge (off := 32) 53 (by decide +kernel) (by decide) (fun (h21 : (nI (lr_n g 289)) ≤ (nI k)) => ?_) (fun (h9 : ¬ ((nI (lr_n g 289)) ≤ (nI k))) => absurd (nI_le (by omega) (by omega)) h9)
    exact pm_V.drop (lo' := [some (.ref 47), some (.int x), some (.int (-1)), none]) ⟨rfl, rfl, rfl, trivial⟩ K
  | succ n ih =>
    intro k hk
    refine pm_bl [(.iload_n 3, 1, 3, 0, 0), (.aload_n 0, 1, 0, 0, 0), (.getfield 7, 3, 10, 0, 0), (.sipush 289, 3, 0, 0, 289), (.iaload, 1, 0, 0, 0)] (pc1 := 21) (lo1 := [some (.ref 47), some (.int x), some (.int (-1)), some (.int (nI k))]) (st1 := [.int (μ.1 48 (289 : Int32).toNatClampNeg), .int (nI k)]) (μ1 := μ) (vc := vp_in 289 620 ∧ True) rfl (by decide +kernel) rfl ⟨(by unfold vp_in; decide), trivial⟩ ?_
    rw [show (289 : Int32).toNatClampNeg = 289 from by decide, hM, lr_gl hG]
    refine pm_icmp_ge (off := 32) 53 (by decide +kernel) (by decide) (fun (h9 : (nI (lr_n g 289)) ≤ (nI k)) => absurd h9 (nI_ge (by omega) (by omega))) (fun (h21 : ¬ ((nI (lr_n g 289)) ≤ (nI k))) => ?_)
    refine pm_bl [(.aload_n 0, 1, 0, 0, 0), (.iload_n 3, 1, 3, 0, 0)] (pc1 := 26) (lo1 := [some (.ref 47), some (.int x), some (.int (-1)), some (.int (nI k))]) (st1 := [.int (nI k), .ref 47]) (μ1 := μ) (vc := True) rfl (by decide +kernel) rfl trivial ?_
    refine pm_callV2 mi_X10_isNew (ix := 144) (b := 47) (ci := 10) (kc2 := 0) (ks2 := 0) (As := [.int (nI k)]) (rest := []) (c_X10_isNew (j := k) μ hM hG (by omega)) cal_X10_isNew lk10_144 (by decide +kernel) rfl (by decide +kernel) rfl rfl rfl rfl (Nat.le_of_ble_eq_true rfl) (by decide) (by decide) (fun _ _ h9 => h9.elim) ?_
    rintro _ _ ⟨rfl, h9⟩; rw [h9]; clear h9
    show pm_V _ _ _ _ 29 _ [.int (lr_b (lr_nw g k))] _
    refine pm_ifb_eq (off := 18) 47 (by decide +kernel) (by decide) (fun (h29 : (lr_nw g k) = false) => ?_) (fun (h9 : (lr_nw g k) = true) => absurd ((hS.1 k (by omega)).mp h9) (by simp))
    refine pm_bl [(.iinc 3 1, 3, 3, 0, 1), (.goto (-38), 3, 12, 0, 0)] (pc1 := 12) (lo1 := [some (.ref 47), some (.int x), some (.int (-1)), some (.int ((nI k) + 1))]) (st1 := []) (μ1 := μ) (vc := True) rfl (by decide +kernel) rfl trivial ?_
    rw [nI_1]; exact ih (k + 1) (by omega)
set_option maxHeartbeats 4000000 in
set_option maxRecDepth 100000 in
theorem l_X10_numbers_c {g : Nat → Int32} {s : Nat} {S : List Nat} (P : Option Value → pm_Mm → Prop) (x : Int32) (μ : pm_Mm) (hM : μ.1 48 = g) (hG : lr_G g) (hS : lr_Srt g (s :: S)) (K : pm_V mi_X10_numbers (P, pm_NX, fun _ _ _ => True) 0 0 53 [some (.ref 47), some (.int x), some (.int (nI s)), none] [] μ) : ∀ n k : Nat, k + n = lr_n g 289 → ∀ f : Int32, (k ≤ s → f = -1 ∨ ∃ t, f = nI t ∧ t ∈ S) → (s < k → f = nI s) → pm_V mi_X10_numbers (P, pm_NX, fun _ _ _ => True) 0 0 12 [some (.ref 47), some (.int x), some (.int f), some (.int (nI k))] [] μ := by
  have hm1 := lr_mh hG; have hm2 := lr_mw hG; have hm3 := lr_mp hG; have hm4 := lr_mr hG; have hm5 := lr_ma hG; have hm6 := lr_ml hG
  have hs := (hS.2.1 s (List.mem_cons_self ..)).1
  have hpw := List.pairwise_cons.mp hS.2.2
  intro n
  induction n with
  | zero =>
    intro k hk f _ hf
    rw [hf (by omega)]
    refine pm_bl [(.iload_n 3, 1, 3, 0, 0), (.aload_n 0, 1, 0, 0, 0), (.getfield 7, 3, 10, 0, 0), (.sipush 289, 3, 0, 0, 289), (.iaload, 1, 0, 0, 0)] (pc1 := 21) (lo1 := [some (.ref 47), some (.int x), some (.int (nI s)), some (.int (nI k))]) (st1 := [.int (μ.1 48 (289 : Int32).toNatClampNeg), .int (nI k)]) (μ1 := μ) (vc := vp_in 289 620 ∧ True) rfl (by decide +kernel) rfl ⟨(by unfold vp_in; decide), trivial⟩ ?_
    rw [show (289 : Int32).toNatClampNeg = 289 from by decide, hM, lr_gl hG]
    refine pm_icmp_ge (off := 32) 53 (by decide +kernel) (by decide) (fun (h21 : (nI (lr_n g 289)) ≤ (nI k)) => ?_) (fun (h9 : ¬ ((nI (lr_n g 289)) ≤ (nI k))) => absurd (nI_le (by omega) (by omega)) h9)
    exact pm_V.drop (lo' := [some (.ref 47), some (.int x), some (.int (nI s)), none]) ⟨rfl, rfl, rfl, trivial⟩ K
  | succ n ih =>
    intro k hk f hf1 hf2
    have hf : (f = -1 ∧ k ≤ s) ∨ ∃ t, f = nI t ∧ t ∈ s :: S ∧ (k ≤ s → t ∈ S) ∧ (s < k → t = s) := by
      rcases Nat.lt_or_ge s k with h | h
      · exact Or.inr ⟨s, hf2 h, List.mem_cons_self .., fun q => by omega, fun _ => rfl⟩
      · rcases hf1 h with e | ⟨t, e, ht⟩
        · exact Or.inl ⟨e, h⟩
        · exact Or.inr ⟨t, e, List.mem_cons_of_mem _ ht, fun _ => ht, fun q => by omega⟩
    clear hf1 hf2
    rcases hf with ⟨rfl, hks⟩ | ⟨t, rfl, ht, ht1, ht2⟩
    · refine pm_bl [(.iload_n 3, 1, 3, 0, 0), (.aload_n 0, 1, 0, 0, 0), (.getfield 7, 3, 10, 0, 0), (.sipush 289, 3, 0, 0, 289), (.iaload, 1, 0, 0, 0)] (pc1 := 21) (lo1 := [some (.ref 47), some (.int x), some (.int (-1)), some (.int (nI k))]) (st1 := [.int (μ.1 48 (289 : Int32).toNatClampNeg), .int (nI k)]) (μ1 := μ) (vc := vp_in 289 620 ∧ True) rfl (by decide +kernel) rfl ⟨(by unfold vp_in; decide), trivial⟩ ?_
      rw [show (289 : Int32).toNatClampNeg = 289 from by decide, hM, lr_gl hG]
      refine pm_icmp_ge (off := 32) 53 (by decide +kernel) (by decide) (fun (h9 : (nI (lr_n g 289)) ≤ (nI k)) => absurd h9 (nI_ge (by omega) (by omega))) (fun (h21 : ¬ ((nI (lr_n g 289)) ≤ (nI k))) => ?_)
      refine pm_bl [(.aload_n 0, 1, 0, 0, 0), (.iload_n 3, 1, 3, 0, 0)] (pc1 := 26) (lo1 := [some (.ref 47), some (.int x), some (.int (-1)), some (.int (nI k))]) (st1 := [.int (nI k), .ref 47]) (μ1 := μ) (vc := True) rfl (by decide +kernel) rfl trivial ?_
      refine pm_callV2 mi_X10_isNew (ix := 144) (b := 47) (ci := 10) (kc2 := 0) (ks2 := 0) (As := [.int (nI k)]) (rest := []) (c_X10_isNew (j := k) μ hM hG (by omega)) cal_X10_isNew lk10_144 (by decide +kernel) rfl (by decide +kernel) rfl rfl rfl rfl (Nat.le_of_ble_eq_true rfl) (by decide) (by decide) (fun _ _ h9 => h9.elim) ?_
      rintro _ _ ⟨rfl, h9⟩; rw [h9]; clear h9
      show pm_V _ _ _ _ 29 _ [.int (lr_b (lr_nw g k))] _
      refine pm_ifb_eq (off := 18) 47 (by decide +kernel) (by decide) (fun (h29 : (lr_nw g k) = false) => ?_) (fun (h29 : (lr_nw g k) = true) => ?_)
      · refine pm_bl [(.iinc 3 1, 3, 3, 0, 1), (.goto (-38), 3, 12, 0, 0)] (pc1 := 12) (lo1 := [some (.ref 47), some (.int x), some (.int (-1)), some (.int ((nI k) + 1))]) (st1 := []) (μ1 := μ) (vc := True) rfl (by decide +kernel) rfl trivial ?_
        rw [nI_1]; exact ih (k + 1) (by omega) _ (fun _ => Or.inl rfl) (fun q => absurd ((hS.1 k (by omega)).mpr (by rw [show k = s from by omega]; exact List.mem_cons_self ..)) (by rw [h29]; decide))
      · refine pm_bl [(.iload_n 2, 1, 2, 0, 0)] (pc1 := 33) (lo1 := [some (.ref 47), some (.int x), some (.int (-1)), some (.int (nI k))]) (st1 := [.int (-1)]) (μ1 := μ) (vc := True) rfl (by decide +kernel) rfl trivial ?_
        refine pm_if_lt (off := 12) 45 (by decide +kernel) (by decide) (fun _ => ?_) (fun h9 => absurd h9 (by decide))
        refine pm_bl [(.iload_n 3, 1, 3, 0, 0), (.istore_n 2, 1, 2, 0, 0), (.iinc 3 1, 3, 3, 0, 1), (.goto (-38), 3, 12, 0, 0)] (pc1 := 12) (lo1 := [some (.ref 47), some (.int x), some (.int (nI k)), some (.int ((nI k) + 1))]) (st1 := []) (μ1 := μ) (vc := True) rfl (by decide +kernel) rfl trivial ?_
        rw [nI_1]; exact ih (k + 1) (by omega) _ (fun q => Or.inr ⟨k, rfl, (List.mem_cons.mp ((hS.1 k (by omega)).mp h29)).resolve_left (by omega)⟩) (fun q => by rw [show k = s from by omega])
    · have htb := (hS.2.1 t ht).1
      refine pm_bl [(.iload_n 3, 1, 3, 0, 0), (.aload_n 0, 1, 0, 0, 0), (.getfield 7, 3, 10, 0, 0), (.sipush 289, 3, 0, 0, 289), (.iaload, 1, 0, 0, 0)] (pc1 := 21) (lo1 := [some (.ref 47), some (.int x), some (.int (nI t)), some (.int (nI k))]) (st1 := [.int (μ.1 48 (289 : Int32).toNatClampNeg), .int (nI k)]) (μ1 := μ) (vc := vp_in 289 620 ∧ True) rfl (by decide +kernel) rfl ⟨(by unfold vp_in; decide), trivial⟩ ?_
      rw [show (289 : Int32).toNatClampNeg = 289 from by decide, hM, lr_gl hG]
      refine pm_icmp_ge (off := 32) 53 (by decide +kernel) (by decide) (fun (h9 : (nI (lr_n g 289)) ≤ (nI k)) => absurd h9 (nI_ge (by omega) (by omega))) (fun (h21 : ¬ ((nI (lr_n g 289)) ≤ (nI k))) => ?_)
      refine pm_bl [(.aload_n 0, 1, 0, 0, 0), (.iload_n 3, 1, 3, 0, 0)] (pc1 := 26) (lo1 := [some (.ref 47), some (.int x), some (.int (nI t)), some (.int (nI k))]) (st1 := [.int (nI k), .ref 47]) (μ1 := μ) (vc := True) rfl (by decide +kernel) rfl trivial ?_
      refine pm_callV2 mi_X10_isNew (ix := 144) (b := 47) (ci := 10) (kc2 := 0) (ks2 := 0) (As := [.int (nI k)]) (rest := []) (c_X10_isNew (j := k) μ hM hG (by omega)) cal_X10_isNew lk10_144 (by decide +kernel) rfl (by decide +kernel) rfl rfl rfl rfl (Nat.le_of_ble_eq_true rfl) (by decide) (by decide) (fun _ _ h9 => h9.elim) ?_
      rintro _ _ ⟨rfl, h9⟩; rw [h9]; clear h9
      show pm_V _ _ _ _ 29 _ [.int (lr_b (lr_nw g k))] _
      refine pm_ifb_eq (off := 18) 47 (by decide +kernel) (by decide) (fun (h29 : (lr_nw g k) = false) => ?_) (fun (h29 : (lr_nw g k) = true) => ?_)
      · refine pm_bl [(.iinc 3 1, 3, 3, 0, 1), (.goto (-38), 3, 12, 0, 0)] (pc1 := 12) (lo1 := [some (.ref 47), some (.int x), some (.int (nI t)), some (.int ((nI k) + 1))]) (st1 := []) (μ1 := μ) (vc := True) rfl (by decide +kernel) rfl trivial ?_
        rw [nI_1]
        refine ih (k + 1) (by omega) _ (fun q => Or.inr ⟨t, rfl, ht1 (by omega)⟩) (fun q => ?_)
        by_cases hsk : s < k
        · rw [ht2 hsk]
        · have e3 : k = s := by omega
          subst e3
          exfalso
          first
          | (exact absurd ((hS.1 k (by omega)).mpr (List.mem_cons_self ..)) (by rw [h29]; decide))
          | (rw [(hpw.1 t (ht1 (by omega))).1] at h42; exact absurd h42 (by decide))
      · refine pm_bl [(.iload_n 2, 1, 2, 0, 0)] (pc1 := 33) (lo1 := [some (.ref 47), some (.int x), some (.int (nI t)), some (.int (nI k))]) (st1 := [.int (nI t)]) (μ1 := μ) (vc := True) rfl (by decide +kernel) rfl trivial ?_
        refine pm_if_lt (off := 12) 45 (by decide +kernel) (by decide) (fun (h9 : (nI t) < 0) => absurd h9 (nI_pos (by omega))) (fun (h33 : ¬ ((nI t) < 0)) => ?_)
        refine pm_bl [(.aload_n 0, 1, 0, 0, 0), (.iload_n 3, 1, 3, 0, 0), (.iload_n 2, 1, 2, 0, 0)] (pc1 := 39) (lo1 := [some (.ref 47), some (.int x), some (.int (nI t)), some (.int (nI k))]) (st1 := [.int (nI t), .int (nI k), .ref 47]) (μ1 := μ) (vc := True) rfl (by decide +kernel) rfl trivial ?_
        refine pm_callV2 mi_X10_isAhead (ix := 147) (b := 47) (ci := 10) (kc2 := 0) (ks2 := 0) (As := [.int (nI k), .int (nI t)]) (rest := []) (c_X10_isAhead2 (a := k) (b := t) μ hM hG (hS.2.1 k ((hS.1 k (by omega)).mp h29)) (hS.2.1 t ht)) cal_X10_isAhead lk10_147 (by decide +kernel) rfl (by decide +kernel) rfl rfl rfl rfl (Nat.le_of_ble_eq_true rfl) (by decide) (by decide) (fun _ _ h9 => h9.elim) ?_
        rintro _ _ ⟨rfl, h9⟩; rw [h9]; clear h9
        show pm_V _ _ _ _ 42 _ [.int (lr_b (lr_ah g k t))] _
        refine pm_ifb_eq (off := 5) 47 (by decide +kernel) (by decide) (fun (h42 : (lr_ah g k t) = false) => ?_) (fun (h42 : (lr_ah g k t) = true) => ?_)
        · refine pm_bl [(.iinc 3 1, 3, 3, 0, 1), (.goto (-38), 3, 12, 0, 0)] (pc1 := 12) (lo1 := [some (.ref 47), some (.int x), some (.int (nI t)), some (.int ((nI k) + 1))]) (st1 := []) (μ1 := μ) (vc := True) rfl (by decide +kernel) rfl trivial ?_
          rw [nI_1]
          refine ih (k + 1) (by omega) _ (fun q => Or.inr ⟨t, rfl, ht1 (by omega)⟩) (fun q => ?_)
          by_cases hsk : s < k
          · rw [ht2 hsk]
          · have e3 : k = s := by omega
            subst e3
            exfalso
            first
            | (exact absurd ((hS.1 k (by omega)).mpr (List.mem_cons_self ..)) (by rw [h29]; decide))
            | (rw [(hpw.1 t (ht1 (by omega))).1] at h42; exact absurd h42 (by decide))
        · refine pm_bl [(.iload_n 3, 1, 3, 0, 0), (.istore_n 2, 1, 2, 0, 0), (.iinc 3 1, 3, 3, 0, 1), (.goto (-38), 3, 12, 0, 0)] (pc1 := 12) (lo1 := [some (.ref 47), some (.int x), some (.int (nI k)), some (.int ((nI k) + 1))]) (st1 := []) (μ1 := μ) (vc := True) rfl (by decide +kernel) rfl trivial ?_
          rw [nI_1]
          have hkS := List.mem_cons.mp ((hS.1 k (by omega)).mp h29)
          refine ih (k + 1) (by omega) _ (fun q => Or.inr ⟨k, rfl, hkS.resolve_left (by omega)⟩) (fun q => ?_)
          rcases hkS with e | e
          · rw [e]
          · exfalso
            by_cases hsk : s < k
            · rw [ht2 hsk, (hpw.1 k e).2] at h42; exact absurd h42 (by decide)
            · have e3 : k = s := by omega
              subst e3; have q2 := hpw.1 k e; rw [q2.1] at q2; exact absurd q2.2 (by decide)
set_option maxHeartbeats 4000000 in
set_option maxRecDepth 100000 in
theorem l_X10_numbers {μ0 : pm_Mm} {N : Nat} {g9 : Nat → Int32} : ∀ (S : List Nat) (g : Nat → Int32) (μ : pm_Mm), μ.1 48 = g → lr_G g → lr_Srt g S → lr_n g 1 + S.length ≤ 30 → lr_fm μ0 μ → ∀ (c : Nat) (f : Int32), c + S.length = N → N ≤ 100 → ¬ f < 0 → g9 = lr_nums g S → pm_V mi_X10_numbers ((fun v μ2 => v = some (.int (nI N)) ∧ lr_fm μ0 μ2 ∧ μ2.1 48 = g9), pm_NX, fun _ _ _ => True) 0 0 4 [some (.ref 47), some (.int (nI c)), some (.int f), none] [] μ := by
  intro S
  induction S with
  | nil =>
    intro g μ hM hG hS hd hfm c f hc hN hf0 h9g
    have hm1 := lr_mh hG; have hm2 := lr_mw hG; have hm3 := lr_mp hG; have hm4 := lr_mr hG; have hm5 := lr_ma hG; have hm6 := lr_ml hG
    refine pm_bl [(.iload_n 2, 1, 2, 0, 0)] (pc1 := 5) (lo1 := [some (.ref 47), some (.int (nI c)), some (.int f), none]) (st1 := [.int f]) (μ1 := μ) (vc := True) rfl (by decide +kernel) rfl trivial ?_
    refine pm_if_lt (off := 85) 90 (by decide +kernel) (by decide) (fun (h9 : f < 0) => absurd h9 hf0) (fun (h5 : ¬ (f < 0)) => ?_)
    refine pm_bl [(.iconst (-1), 1, 0, 0, (-1)), (.istore_n 2, 1, 2, 0, 0), (.iconst 0, 1, 0, 0, 0), (.istore_n 3, 1, 3, 0, 0)] (pc1 := 12) (lo1 := [some (.ref 47), some (.int (nI c)), some (.int (-1)), some (.int 0)]) (st1 := []) (μ1 := μ) (vc := True) rfl (by decide +kernel) rfl trivial ?_
    refine l_X10_numbers_n _ _ _ hM hG hS ?_ (lr_n g 289) 0 (Nat.zero_add _)
    refine pm_bl [(.iload_n 2, 1, 2, 0, 0)] (pc1 := 54) (lo1 := [some (.ref 47), some (.int (nI c)), some (.int (-1)), none]) (st1 := [.int (-1)]) (μ1 := μ) (vc := True) rfl (by decide +kernel) rfl trivial ?_
    refine pm_if_lt (off := -50) 4 (by decide +kernel) (by decide) (fun _ => ?_) (fun h9 => absurd h9 (by decide))
    refine pm_bl [(.iload_n 2, 1, 2, 0, 0)] (pc1 := 5) (lo1 := [some (.ref 47), some (.int (nI c)), some (.int (-1)), none]) (st1 := [.int (-1)]) (μ1 := μ) (vc := True) rfl (by decide +kernel) rfl trivial ?_
    refine pm_if_lt (off := 85) 90 (by decide +kernel) (by decide) (fun _ => ?_) (fun h9 => absurd h9 (by decide))
    refine pm_bl [(.iload_n 1, 1, 1, 0, 0)] (pc1 := 91) (lo1 := [some (.ref 47), some (.int (nI c)), some (.int (-1)), none]) (st1 := [.int (nI c)]) (μ1 := μ) (vc := True) rfl (by decide +kernel) rfl trivial ?_
    exact pm_iret (ty := .int) rfl rfl (by decide) (by decide) (by decide +kernel) (⟨by rw [← hc]; rfl, hfm, by rw [hM, h9g]; rfl⟩)
  | cons s S ih =>
    intro g μ hM hG hS hd hfm c f hc hN hf0 h9g
    rw [List.length_cons] at hd hc
    have hs := (hS.2.1 s (List.mem_cons_self ..)).1
    have hm1 := lr_mh hG; have hm2 := lr_mw hG; have hm3 := lr_mp hG; have hm4 := lr_mr hG; have hm5 := lr_ma hG; have hm6 := lr_ml hG
    refine pm_bl [(.iload_n 2, 1, 2, 0, 0)] (pc1 := 5) (lo1 := [some (.ref 47), some (.int (nI c)), some (.int f), none]) (st1 := [.int f]) (μ1 := μ) (vc := True) rfl (by decide +kernel) rfl trivial ?_
    refine pm_if_lt (off := 85) 90 (by decide +kernel) (by decide) (fun (h9 : f < 0) => absurd h9 hf0) (fun (h5 : ¬ (f < 0)) => ?_)
    refine pm_bl [(.iconst (-1), 1, 0, 0, (-1)), (.istore_n 2, 1, 2, 0, 0), (.iconst 0, 1, 0, 0, 0), (.istore_n 3, 1, 3, 0, 0)] (pc1 := 12) (lo1 := [some (.ref 47), some (.int (nI c)), some (.int (-1)), some (.int 0)]) (st1 := []) (μ1 := μ) (vc := True) rfl (by decide +kernel) rfl trivial ?_
    refine l_X10_numbers_c _ _ _ hM hG hS ?_ (lr_n g 289) 0 (Nat.zero_add _) _ (fun _ => Or.inl rfl) (fun q => absurd q (by omega))
    refine pm_bl [(.iload_n 2, 1, 2, 0, 0)] (pc1 := 54) (lo1 := [some (.ref 47), some (.int (nI c)), some (.int (nI s)), none]) (st1 := [.int (nI s)]) (μ1 := μ) (vc := True) rfl (by decide +kernel) rfl trivial ?_
    refine pm_if_lt (off := -50) 4 (by decide +kernel) (by decide) (fun (h9 : (nI s) < 0) => absurd h9 (nI_pos (by omega))) (fun (h54 : ¬ ((nI s) < 0)) => ?_)
    refine pm_bl [(.aload_n 0, 1, 0, 0, 0), (.getfield 7, 3, 10, 0, 0), (.iload_n 2, 1, 2, 0, 0), (.bipush 10, 2, 0, 0, 10)] (pc1 := 64) (lo1 := [some (.ref 47), some (.int (nI c)), some (.int (nI s)), none]) (st1 := [.int 10, .int (nI s), .ref 48]) (μ1 := μ) (vc := True) rfl (by decide +kernel) rfl trivial ?_
    refine pm_callS2 mi_X10_at (ix := 127) (kc2 := 0) (ks2 := 0) (As := [.int (nI s), .int 10]) (rest := [.ref 48]) (c_X10_at (k := s) (c := 10) (n := 300 + 11 * s) μ (by omega)) cal_X10_at lk10_127 (by decide +kernel) rfl (by decide +kernel) rfl rfl (Nat.le_of_ble_eq_true rfl) (by decide) (by decide) (fun _ _ h9 => h9.elim) ?_
    rintro _ _ ⟨rfl, h9⟩; rw [h9]; clear h9
    show pm_V _ _ _ _ 67 _ [.int (nI (300 + 11 * s)), .ref 48] _
    refine pm_bl [(.aload_n 0, 1, 0, 0, 0), (.getfield 7, 3, 10, 0, 0), (.iconst 1, 1, 0, 0, 1), (.iaload, 1, 0, 0, 0)] (pc1 := 73) (lo1 := [some (.ref 47), some (.int (nI c)), some (.int (nI s)), none]) (st1 := [.int (μ.1 48 (1 : Int32).toNatClampNeg), .int (nI (300 + 11 * s)), .ref 48]) (μ1 := μ) (vc := vp_in 1 620 ∧ True) rfl (by decide +kernel) rfl ⟨(by unfold vp_in; decide), trivial⟩ ?_
    rw [show (1 : Int32).toNatClampNeg = 1 from by decide, hM, lr_gD hG]
    refine pm_bl [(.iastore, 1, 0, 0, 0), (.aload_n 0, 1, 0, 0, 0), (.getfield 7, 3, 10, 0, 0), (.iconst 1, 1, 0, 0, 1), (.dup2, 1, 0, 0, 0), (.iaload, 1, 0, 0, 0)] (pc1 := 81) (lo1 := [some (.ref 47), some (.int (nI c)), some (.int (nI s)), none]) (st1 := [.int ((pm_set μ 48 ((nI (300 + 11 * s)).toNatClampNeg) (nI (lr_n g 1))).1 48 (1 : Int32).toNatClampNeg), .int 1, .ref 48]) (μ1 := pm_set μ 48 ((nI (300 + 11 * s)).toNatClampNeg) (nI (lr_n g 1))) (vc := vp_in (nI (300 + 11 * s)) 620 ∧ vp_in 1 620 ∧ True) rfl (by decide +kernel) rfl ⟨(vp_in_nI (by omega) (by omega)), (by unfold vp_in; decide), trivial⟩ ?_
    try rw [show (1 : Int32).toNatClampNeg = 1 from by decide]
    try rw [nI_clamp (n := (300 + 11 * s)) (by omega)]
    refine pm_bl [(.iconst 1, 1, 0, 0, 1), (.iadd, 1, 0, 0, 0), (.iastore, 1, 0, 0, 0), (.iinc 1 1, 3, 1, 0, 1), (.goto (-83), 3, 4, 0, 0)] (pc1 := 4) (lo1 := [some (.ref 47), some (.int ((nI c) + 1)), some (.int (nI s)), none]) (st1 := []) (μ1 := pm_set (pm_set μ 48 (300 + 11 * s) (nI (lr_n g 1))) 48 ((1 : Int32).toNatClampNeg) (((pm_set μ 48 (300 + 11 * s) (nI (lr_n g 1))).1 48 1) + 1)) (vc := vp_in 1 620 ∧ True) rfl (by decide +kernel) rfl ⟨(by unfold vp_in; decide), trivial⟩ ?_
    try rw [show (1 : Int32).toNatClampNeg = 1 from by decide]
    rw [nI_1]
    refine ih (lr_num1 g s) _ ?_ (lr_num1_G hG (by omega)) (hS.tl hG (by omega)) ?_ (lr_fm.set (lr_fm.set hfm)) (c + 1) (nI s) (by omega) hN (nI_pos (by omega)) h9g
    · rw [pm_set_at, pm_set_at, hM]; unfold lr_num1; rw [lr_gD hG, upd_ne (by omega), lr_gD hG]
    · rw [lr_num1_1 hG]; omega
set_option maxHeartbeats 4000000 in
set_option maxRecDepth 100000 in
theorem c_X10_numbers {g : Nat → Int32} {S : List Nat} (μ : pm_Mm) (hM : μ.1 48 = g) (hG : lr_G g) (hS : lr_Srt g S) (hd : lr_n g 1 + S.length ≤ 30) : pm_CT mi_X10_numbers [.ref 47] μ (fun v μ2 => v = some (.int (nI S.length)) ∧ lr_fm μ μ2 ∧ μ2.1 48 = lr_nums g S) pm_NX := by
  refine pm_CT_of (lo := [some (.ref 47), none, none, none]) (by decide +kernel) rfl rfl (by intro v hv; simp at hv; rcases hv with rfl <;> rfl) (Nat.le_of_ble_eq_true rfl) rfl ?_
  refine pm_bl [(.iconst 0, 1, 0, 0, 0), (.istore_n 1, 1, 1, 0, 0), (.iconst 0, 1, 0, 0, 0), (.istore_n 2, 1, 2, 0, 0)] (pc1 := 4) (lo1 := [some (.ref 47), some (.int 0), some (.int 0), none]) (st1 := []) (μ1 := μ) (vc := True) rfl (by decide +kernel) rfl trivial ?_
  exact l_X10_numbers S g μ hM hG hS hd lr_fm.rf 0 0 (Nat.zero_add _) (by omega) (by decide) rfl
