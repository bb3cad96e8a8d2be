/-! the class: the order of the day, handing over, the end of the day -/
theorem nI_div {a b : Nat} (ha : a < 2 ^ 31) (hb : b < 2 ^ 31) : nI a / nI b = nI (a / b) := by
  have h : a / b < 2 ^ 31 := Nat.lt_of_le_of_lt (Nat.div_le_self a b) ha
  apply Int32.toInt_inj.mp
  rw [Int32.toInt_div, nI_toInt ha, nI_toInt hb, nI_toInt h, ← Int.ofNat_tdiv]
  have key : ∀ q : Nat, q < 2 ^ 31 → Int.bmod (q : Int) (2 ^ 32) = (q : Int) := fun q hq => Int.bmod_eq_of_le (by omega) (by omega)
  exact key _ h
theorem nI_mul (a b : Nat) : nI a * nI b = nI (a * b) := (Int32.ofNat_mul a b).symm
theorem nI_subN {a b : Nat} (h : b ≤ a) : nI a - nI b = nI (a - b) := by
  have e : nI a = nI (a - b) + nI b := by rw [nI_add, Nat.sub_add_cancel h]
  rw [e, Int32.add_sub_cancel]
theorem nI_mod {a b : Nat} (ha : a < 2 ^ 31) (hb : b < 2 ^ 31) : nI a - nI a / nI b * nI b = nI (a % b) := by
  rw [nI_div ha hb, nI_mul, nI_subN (Nat.div_mul_le_self a b)]
  congr 1
  have h := Nat.mod_add_div a b
  rw [Nat.mul_comm] at h
  omega
/-- a number put into a row of growing numbers -/
def lr_inN (k : Nat) : List Nat → List Nat
  | [] => [k]
  | s :: S => if k < s then k :: s :: S else s :: lr_inN k S
def lr_ps (k : Nat) : List Nat → Nat
  | [] => 0
  | s :: S => if k < s then 0 else 1 + lr_ps k S
theorem lr_ps_le (k : Nat) : ∀ S, lr_ps k S ≤ S.length := by
  intro S
  induction S with
  | nil => exact Nat.le_refl _
  | cons s S ih => simp only [lr_ps, List.length_cons]; split <;> omega
theorem lr_ps_lo (k : Nat) : ∀ S i, i < lr_ps k S → S.getD i 0 ≤ k := by
  intro S
  induction S with
  | nil => intro i h; simp only [lr_ps] at h; omega
  | cons s S ih =>
    intro i h
    simp only [lr_ps] at h
    split at h
    · omega
    · cases i with
      | zero => simp only [List.getD_cons_zero]; omega
      | succ i => simp only [List.getD_cons_succ]; exact ih i (by omega)
theorem lr_ps_hi (k : Nat) : ∀ S, S.Pairwise (· < ·) → ∀ i, lr_ps k S ≤ i → i < S.length → k < S.getD i 0 := by
  intro S
  induction S with
  | nil => intro _ i _ h; simp at h
  | cons s S ih =>
    intro hp i h1 h2
    rw [List.pairwise_cons] at hp
    simp only [lr_ps] at h1
    rw [List.length_cons] at h2
    split at h1
    · rename_i q
      cases i with
      | zero => simp only [List.getD_cons_zero]; exact q
      | succ i =>
        simp only [List.getD_cons_succ]
        have hm : S.getD i 0 ∈ S := by rw [List.getD_eq_getElem?_getD, List.getElem?_eq_getElem (by omega)]; exact List.getElem_mem _
        exact Nat.lt_trans q (hp.1 _ hm)
    · cases i with
      | zero => omega
      | succ i => simp only [List.getD_cons_succ]; exact ih hp.2 i (by omega) (by omega)
theorem lr_inN_get (k : Nat) : ∀ S i, (lr_inN k S).getD i 0 = if i < lr_ps k S then S.getD i 0 else if i = lr_ps k S then k else S.getD (i - 1) 0 := by
  intro S
  induction S with
  | nil =>
    intro i
    show ([k] : List Nat).getD i 0 = if i < 0 then ([] : List Nat).getD i 0 else if i = 0 then k else ([] : List Nat).getD (i - 1) 0
    rw [if_neg (by omega)]
    cases i with
    | zero => rfl
    | succ i => rw [if_neg (by omega)]; rfl
  | cons s S ih =>
    intro i
    simp only [lr_inN, lr_ps]
    split
    · rw [if_neg (by omega)]
      cases i with
      | zero => rfl
      | succ i => rw [if_neg (by omega)]; rfl
    · cases i with
      | zero => rw [if_pos (by omega)]; rfl
      | succ i =>
        simp only [List.getD_cons_succ]
        rw [ih i]
        by_cases h1 : i < lr_ps k S
        · rw [if_pos h1, if_pos (by omega)]
        · rw [if_neg h1, if_neg (show ¬ i + 1 < 1 + lr_ps k S by omega)]
          by_cases h2 : i = lr_ps k S
          · rw [if_pos h2, if_pos (by omega)]
          · rw [if_neg h2, if_neg (by omega)]
            cases i with
            | zero => omega
            | succ i => rfl
theorem lr_inN_len (k : Nat) : ∀ S, (lr_inN k S).length = S.length + 1 := by
  intro S
  induction S with
  | nil => rfl
  | cons s S ih => simp only [lr_inN]; split; rfl; rw [List.length_cons, ih, List.length_cons]
theorem lr_ins_map {K : Nat → Nat} {l : Nat} : ∀ S, (lr_ins K l S).map K = lr_inN (K l) (S.map K) := by
  intro S
  induction S with
  | nil => rfl
  | cons s S ih =>
    simp only [lr_ins, List.map_cons, lr_inN]
    split
    · rfl
    · rw [List.map_cons, ih]
/-- row f holds the numbers of L -/
def lr_Ar (f : Nat → Int32) (L : List Nat) : Prop := ∀ i, i < L.length → f i = nI (L.getD i 0)
theorem nI_gt00 {n : Nat} (h0 : 0 < n) (h : n < 2 ^ 31) : 0 < nI n := (nJ_lt (a := 0) (by decide) h).mpr h0
set_option maxHeartbeats 4000000 in
set_option maxRecDepth 100000 in
theorem l_X5_insertSorted {L : List Nat} {k n : Nat} (hn : n = L.length) (hL : n < 30) (hk : k < 2 ^ 31) (hb : ∀ i, i < n → L.getD i 0 < 2 ^ 31) (hs : L.Pairwise (· < ·)) (μ : pm_Mm) : ∀ d p : Nat, p = lr_ps k L + d → p ≤ n → ∀ μ1 : pm_Mm, (∀ i, i ≠ 39 → μ1.1 i = μ.1 i) → μ1.2 = μ.2 → (∀ i, i < p → μ1.1 39 i = nI (L.getD i 0)) → (∀ i, p < i → i ≤ n → μ1.1 39 i = nI (L.getD (i - 1) 0)) → pm_V mi_X5_insertSorted ((fun v μ2 => v = some (.int (nI (L.length + 1))) ∧ (∀ i, i ≠ 39 → μ2.1 i = μ.1 i) ∧ μ2.2 = μ.2 ∧ lr_Ar (μ2.1 39) (lr_inN k L)), pm_NX, fun _ _ _ => True) 0 0 10 [some (.ref 1), some (.int (nI k)), some (.int (nI n)), some (.int (nI p))] [] μ1 := by
  intro d
  induction d with
  | zero =>
    intro p hp hpn μ1 hf h2 hlo hhi
    obtain rfl : p = lr_ps k L := by omega
    have fin : pm_V mi_X5_insertSorted ((fun v μ2 => v = some (.int (nI (L.length + 1))) ∧ (∀ i, i ≠ 39 → μ2.1 i = μ.1 i) ∧ μ2.2 = μ.2 ∧ lr_Ar (μ2.1 39) (lr_inN k L)), pm_NX, fun _ _ _ => True) 0 0 46 [some (.ref 1), some (.int (nI k)), some (.int (nI n)), some (.int (nI (lr_ps k L)))] [] μ1 := by
      refine pm_bl [(.aload_n 0, 1, 0, 0, 0), (.getfield 57, 3, 5, 7, 0), (.iload_n 3, 1, 3, 0, 0), (.iload_n 1, 1, 1, 0, 0), (.iastore, 1, 0, 0, 0), (.iload_n 2, 1, 2, 0, 0), (.iconst 1, 1, 0, 0, 1), (.iadd, 1, 0, 0, 0)] (pc1 := 56) (lo1 := [some (.ref 1), some (.int (nI k)), some (.int (nI n)), some (.int (nI (lr_ps k L)))]) (st1 := [.int ((nI n) + 1)]) (μ1 := pm_set μ1 39 ((nI (lr_ps k L)).toNatClampNeg) (nI k)) (vc := vp_in (nI (lr_ps k L)) 30 ∧ True) rfl (by decide +kernel) rfl ⟨(vp_in_nI (by omega) (by omega)), trivial⟩ ?_
      try rw [nI_clamp (n := (lr_ps k L)) (by omega)]
      exact pm_iret (ty := .int) rfl rfl (by decide) (by decide) (by decide +kernel) (by
      refine ⟨by rw [nI_1, hn], fun i hi => by rw [pm_set_off hi]; exact hf i hi, h2, fun i hi => ?_⟩
      rw [lr_inN_len] at hi
      rw [lr_inN_get]
      show (if 39 = 39 ∧ i = lr_ps k L then nI k else μ1.1 39 i) = _
      by_cases h1 : i < lr_ps k L
      · rw [if_neg (by omega), if_pos h1]; exact hlo i h1
      · rw [if_neg h1]
        by_cases h3 : i = lr_ps k L
        · rw [if_pos ⟨rfl, h3⟩, if_pos h3]
        · rw [if_neg (fun e => h3 e.2), if_neg h3]; exact hhi i (by omega) (by omega))
    rcases Nat.eq_zero_or_pos (lr_ps k L) with h0 | h0
    · rw [h0] at fin ⊢
      refine pm_bl [(.iload_n 3, 1, 3, 0, 0)] (pc1 := 11) (lo1 := [some (.ref 1), some (.int (nI k)), some (.int (nI n)), some (.int (nI 0))]) (st1 := [.int (nI 0)]) (μ1 := μ1) (vc := True) rfl (by decide +kernel) rfl trivial ?_
      refine pm_if_le (off := 35) 46 (by decide +kernel) (by decide) (fun (h11 : (nI 0) ≤ 0) => ?_) (fun (h9 : ¬ ((nI 0) ≤ 0)) => absurd (Int32.not_le.mp h9) (by decide))
      exact fin
    · obtain ⟨q, hq⟩ : ∃ q, lr_ps k L = q + 1 := ⟨lr_ps k L - 1, by omega⟩
      have hle := lr_ps_lo k L q (by omega)
      have hbq := hb q (by omega)
      rw [hq] at fin hlo hpn ⊢
      refine pm_bl [(.iload_n 3, 1, 3, 0, 0)] (pc1 := 11) (lo1 := [some (.ref 1), some (.int (nI k)), some (.int (nI n)), some (.int (nI (q + 1)))]) (st1 := [.int (nI (q + 1))]) (μ1 := μ1) (vc := True) rfl (by decide +kernel) rfl trivial ?_
      refine pm_if_le (off := 35) 46 (by decide +kernel) (by decide) (fun (h9 : (nI (q + 1)) ≤ 0) => absurd (nI_gt00 (show 0 < q + 1 by omega) (by omega)) (Int32.not_lt.mpr h9)) (fun (h11 : ¬ ((nI (q + 1)) ≤ 0)) => ?_)
      refine pm_bl [(.aload_n 0, 1, 0, 0, 0), (.getfield 57, 3, 5, 7, 0), (.iload_n 3, 1, 3, 0, 0), (.iconst 1, 1, 0, 0, 1), (.isub, 1, 0, 0, 0)] (pc1 := 21) (lo1 := [some (.ref 1), some (.int (nI k)), some (.int (nI n)), some (.int (nI (q + 1)))]) (st1 := [.int ((nI (q + 1)) - 1), .ref 39]) (μ1 := μ1) (vc := True) rfl (by decide +kernel) rfl trivial ?_
      rw [nI_pred]
      refine pm_bl [(.iaload, 1, 0, 0, 0)] (pc1 := 22) (lo1 := [some (.ref 1), some (.int (nI k)), some (.int (nI n)), some (.int (nI (q + 1)))]) (st1 := [.int (μ1.1 39 (nI q).toNatClampNeg)]) (μ1 := μ1) (vc := vp_in (nI q) 30 ∧ True) rfl (by decide +kernel) rfl ⟨(vp_in_nI (by omega) (by omega)), trivial⟩ ?_
      first | rw [nI_clamp (n := q) (by omega), hlo q (by omega)] | rw [hlo q (by omega)]
      refine pm_bl [(.iload_n 1, 1, 1, 0, 0)] (pc1 := 23) (lo1 := [some (.ref 1), some (.int (nI k)), some (.int (nI n)), some (.int (nI (q + 1)))]) (st1 := [.int (nI k), .int (nI (L.getD q 0))]) (μ1 := μ1) (vc := True) rfl (by decide +kernel) rfl trivial ?_
      refine pm_icmp_le (off := 23) 46 (by decide +kernel) (by decide) (fun (h23 : (nI (L.getD q 0)) ≤ (nI k)) => ?_) (fun (h9 : ¬ ((nI (L.getD q 0)) ≤ (nI k))) => absurd (nI_le hle hk) h9)
      exact fin
  | succ d ih =>
    intro p hp hpn μ1 hf h2 hlo hhi
    obtain ⟨q, rfl⟩ : ∃ q, p = q + 1 := ⟨p - 1, by omega⟩
    have hgt := lr_ps_hi k L hs q (by omega) (by omega)
    have hbq := hb q (by omega)
    refine pm_bl [(.iload_n 3, 1, 3, 0, 0)] (pc1 := 11) (lo1 := [some (.ref 1), some (.int (nI k)), some (.int (nI n)), some (.int (nI (q + 1)))]) (st1 := [.int (nI (q + 1))]) (μ1 := μ1) (vc := True) rfl (by decide +kernel) rfl trivial ?_
    refine pm_if_le (off := 35) 46 (by decide +kernel) (by decide) (fun (h9 : (nI (q + 1)) ≤ 0) => absurd (nI_gt00 (show 0 < q + 1 by omega) (by omega)) (Int32.not_lt.mpr h9)) (fun (h11 : ¬ ((nI (q + 1)) ≤ 0)) => ?_)
    refine pm_bl [(.aload_n 0, 1, 0, 0, 0), (.getfield 57, 3, 5, 7, 0), (.iload_n 3, 1, 3, 0, 0), (.iconst 1, 1, 0, 0, 1), (.isub, 1, 0, 0, 0)] (pc1 := 21) (lo1 := [some (.ref 1), some (.int (nI k)), some (.int (nI n)), some (.int (nI (q + 1)))]) (st1 := [.int ((nI (q + 1)) - 1), .ref 39]) (μ1 := μ1) (vc := True) rfl (by decide +kernel) rfl trivial ?_
    rw [nI_pred]
    refine pm_bl [(.iaload, 1, 0, 0, 0)] (pc1 := 22) (lo1 := [some (.ref 1), some (.int (nI k)), some (.int (nI n)), some (.int (nI (q + 1)))]) (st1 := [.int (μ1.1 39 (nI q).toNatClampNeg)]) (μ1 := μ1) (vc := vp_in (nI q) 30 ∧ True) rfl (by decide +kernel) rfl ⟨(vp_in_nI (by omega) (by omega)), trivial⟩ ?_
    first | rw [nI_clamp (n := q) (by omega), hlo q (by omega)] | rw [hlo q (by omega)]
    refine pm_bl [(.iload_n 1, 1, 1, 0, 0)] (pc1 := 23) (lo1 := [some (.ref 1), some (.int (nI k)), some (.int (nI n)), some (.int (nI (q + 1)))]) (st1 := [.int (nI k), .int (nI (L.getD q 0))]) (μ1 := μ1) (vc := True) rfl (by decide +kernel) rfl trivial ?_
    refine pm_icmp_le (off := 23) 46 (by decide +kernel) (by decide) (fun (h9 : (nI (L.getD q 0)) ≤ (nI k)) => absurd h9 (nI_ge hgt hbq)) (fun (h23 : ¬ ((nI (L.getD q 0)) ≤ (nI k))) => ?_)
    refine pm_bl [(.aload_n 0, 1, 0, 0, 0), (.getfield 57, 3, 5, 7, 0), (.iload_n 3, 1, 3, 0, 0), (.aload_n 0, 1, 0, 0, 0), (.getfield 57, 3, 5, 7, 0), (.iload_n 3, 1, 3, 0, 0), (.iconst 1, 1, 0, 0, 1), (.isub, 1, 0, 0, 0)] (pc1 := 38) (lo1 := [some (.ref 1), some (.int (nI k)), some (.int (nI n)), some (.int (nI (q + 1)))]) (st1 := [.int ((nI (q + 1)) - 1), .ref 39, .int (nI (q + 1)), .ref 39]) (μ1 := μ1) (vc := True) rfl (by decide +kernel) rfl trivial ?_
    rw [nI_pred]
    refine pm_bl [(.iaload, 1, 0, 0, 0)] (pc1 := 39) (lo1 := [some (.ref 1), some (.int (nI k)), some (.int (nI n)), some (.int (nI (q + 1)))]) (st1 := [.int (μ1.1 39 (nI q).toNatClampNeg), .int (nI (q + 1)), .ref 39]) (μ1 := μ1) (vc := vp_in (nI q) 30 ∧ True) rfl (by decide +kernel) rfl ⟨(vp_in_nI (by omega) (by omega)), trivial⟩ ?_
    first | rw [nI_clamp (n := q) (by omega), hlo q (by omega)] | rw [hlo q (by omega)]
    refine pm_bl [(.iastore, 1, 0, 0, 0), (.iinc 3 (-1), 3, 3, 0, (-1)), (.goto (-33), 3, 10, 0, 0)] (pc1 := 10) (lo1 := [some (.ref 1), some (.int (nI k)), some (.int (nI n)), some (.int ((nI (q + 1)) + (-1)))]) (st1 := []) (μ1 := pm_set μ1 39 ((nI (q + 1)).toNatClampNeg) (nI (L.getD q 0))) (vc := vp_in (nI (q + 1)) 30 ∧ True) rfl (by decide +kernel) rfl ⟨(vp_in_nI (by omega) (by omega)), trivial⟩ ?_
    try rw [nI_clamp (n := (q + 1)) (by omega)]
    rw [show nI (q + 1) + (-1) = nI q from ((Int32.sub_eq_add_neg _ _).symm.trans (nI_pred q))]
    refine ih q (by omega) (by omega) _ (fun i hi => by rw [pm_set_off hi]; exact hf i hi) h2 (fun i hi => ?_) (fun i h3 h4 => ?_)
    · rw [pm_set_miss (Or.inr (by omega))]; exact hlo i (by omega)
    · by_cases e : i = q + 1
      · subst e; rw [pm_set_hit]; rfl
      · rw [pm_set_miss (Or.inr e)]; exact hhi i (by omega) h4
set_option maxHeartbeats 4000000 in
set_option maxRecDepth 100000 in
theorem c_X5_insertSorted {L : List Nat} {k n : Nat} (hn : n = L.length) (hL : n < 30) (hk : k < 2 ^ 31) (hb : ∀ i, i < n → L.getD i 0 < 2 ^ 31) (hs : L.Pairwise (· < ·)) (μ : pm_Mm) (hA : lr_Ar (μ.1 39) L) : pm_CT mi_X5_insertSorted [.ref 1, .int (nI k), .int (nI n)] μ (fun v μ2 => v = some (.int (nI (L.length + 1))) ∧ (∀ i, i ≠ 39 → μ2.1 i = μ.1 i) ∧ μ2.2 = μ.2 ∧ lr_Ar (μ2.1 39) (lr_inN k L)) pm_NX := by
  refine pm_CT_of (lo := [some (.ref 1), some (.int (nI k)), some (.int (nI n)), none]) (by decide +kernel) rfl rfl (by intro v hv; simp at hv; rcases hv with rfl | rfl | rfl <;> rfl) (Nat.le_of_ble_eq_true rfl) rfl ?_
  refine pm_bl [(.iload_n 2, 1, 2, 0, 0), (.bipush 30, 2, 0, 0, 30)] (pc1 := 3) (lo1 := [some (.ref 1), some (.int (nI k)), some (.int (nI n)), none]) (st1 := [.int 30, .int (nI n)]) (μ1 := μ) (vc := True) rfl (by decide +kernel) rfl trivial ?_
  refine pm_icmp_lt (off := 5) 8 (by decide +kernel) (by decide) (fun (h3 : (nI n) < 30) => ?_) (fun (h9 : ¬ ((nI n) < 30)) => absurd (nI_lt (b := 30) hL (by omega)) h9)
  refine pm_bl [(.iload_n 2, 1, 2, 0, 0), (.istore_n 3, 1, 3, 0, 0)] (pc1 := 10) (lo1 := [some (.ref 1), some (.int (nI k)), some (.int (nI n)), some (.int (nI n))]) (st1 := []) (μ1 := μ) (vc := True) rfl (by decide +kernel) rfl trivial ?_
  exact l_X5_insertSorted hn hL hk hb hs μ (n - lr_ps k L) n (by have := lr_ps_le k L; omega) (Nat.le_refl _) μ (fun _ _ => rfl) rfl (fun i hi => hA i (by omega)) (fun i h1 h2 => by omega)
