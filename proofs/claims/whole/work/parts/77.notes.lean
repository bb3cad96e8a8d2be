/-! the model: notes -/
/-- the digits of v, below 1000 -/
def lr_dg (v : Nat) : List Nat := (if 99 < v then [48 + v / 100] else []) ++ (if 9 < v then [48 + v / 10 % 10] else []) ++ [48 + v % 10]
theorem lr_dg_len (v : Nat) : (lr_dg v).length ≤ 3 := by unfold lr_dg; repeat' split <;> simp
/-- the text so far is L; nothing else moved since μ0 -/
def lr_Nt (μ0 : pm_Mm) (L : List Nat) (μ : pm_Mm) : Prop := (∀ i k, i ≠ 52 → ¬ (i = 47 ∧ k = 9) → μ.1 i k = μ0.1 i k) ∧ μ.2 = μ0.2 ∧ μ.1 47 9 = nI L.length ∧ ∀ i, i < L.length → μ.1 52 i = nI (L.getD i 0)
theorem lr_getD_app {L : List Nat} {c i : Nat} : (L ++ [c]).getD i 0 = if i < L.length then L.getD i 0 else if i = L.length then c else 0 := by
  rw [List.getD_eq_getElem?_getD, List.getD_eq_getElem?_getD]
  by_cases h : i < L.length
  · rw [if_pos h, List.getElem?_append_left h]
  · rw [if_neg h, List.getElem?_append_right (by omega)]
    by_cases e : i = L.length
    · rw [if_pos e, e, Nat.sub_self]; rfl
    · rw [if_neg e, List.getElem?_eq_none (by simp; omega)]; rfl
theorem lr_Nt.add {μ0 μ : pm_Mm} {L : List Nat} {c : Nat} (h : lr_Nt μ0 L μ) : lr_Nt μ0 (L ++ [c]) (pm_set (pm_set μ 52 L.length (nI c)) 47 9 (nI (L.length + 1))) := by
  obtain ⟨h1, h2, h3, h4⟩ := h
  refine ⟨fun i k h5 h6 => ?_, h2, by rw [pm_set_hit, List.length_append]; rfl, fun i hi => ?_⟩
  · show (if i = 47 ∧ k = 9 then _ else if i = 52 ∧ k = L.length then _ else μ.1 i k) = _
    rw [if_neg h6, if_neg (fun e => h5 e.1)]; exact h1 i k h5 h6
  · rw [lr_getD_app]
    rw [List.length_append] at hi
    have hi2 : i < L.length + 1 := hi
    rw [pm_set_miss (Or.inl (by decide))]
    show (if 52 = 52 ∧ i = L.length then _ else μ.1 52 i) = _
    by_cases e : i = L.length
    · rw [if_pos ⟨rfl, e⟩, if_neg (by omega), if_pos e]
    · rw [if_neg (fun q => e q.2), if_pos (by omega)]; exact h4 i (by omega)
set_option maxHeartbeats 4000000 in
set_option maxRecDepth 100000 in
theorem c_X10_says {μ0 : pm_Mm} {L : List Nat} {c : Nat} {x : Int32} (hx : x = nI c) (μ : pm_Mm) (hN : lr_Nt μ0 L μ) (hL : L.length < 40) : pm_CT mi_X10_says [.ref 47, .int x] μ (fun v μ2 => v = none ∧ lr_Nt μ0 (L ++ [c]) μ2) pm_NX := by
  subst hx
  refine pm_CT_of (lo := [some (.ref 47), some (.int (nI c))]) (by decide +kernel) rfl rfl (by intro v hv; simp at hv; rcases hv with rfl | rfl <;> rfl) (Nat.le_of_ble_eq_true rfl) rfl ?_
  obtain ⟨n, hn⟩ : ∃ n, L.length = n := ⟨_, rfl⟩
  have h9 : μ.1 47 9 = nI n := by rw [← hn]; exact hN.2.2.1
  rw [hn] at hL
  refine pm_bl [(.aload_n 0, 1, 0, 0, 0), (.getfield 22, 3, 10, 8, 0), (.aload_n 0, 1, 0, 0, 0), (.getfield 167, 3, 10, 9, 0)] (pc1 := 8) (lo1 := [some (.ref 47), some (.int (nI c))]) (st1 := [.int (μ.1 47 9), .ref 52]) (μ1 := μ) (vc := True) rfl (by decide +kernel) rfl trivial ?_
  rw [h9]
  refine pm_bl [(.iload_n 1, 1, 1, 0, 0), (.iastore, 1, 0, 0, 0), (.aload_n 0, 1, 0, 0, 0), (.dup, 1, 0, 0, 0), (.getfield 167, 3, 10, 9, 0)] (pc1 := 15) (lo1 := [some (.ref 47), some (.int (nI c))]) (st1 := [.int ((pm_set μ 52 ((nI n).toNatClampNeg) (nI c)).1 47 9), .ref 47]) (μ1 := pm_set μ 52 ((nI n).toNatClampNeg) (nI c)) (vc := vp_in (nI n) 40 ∧ True) rfl (by decide +kernel) rfl ⟨(vp_in_nI (by omega) (by omega)), trivial⟩ ?_
  rw [show (pm_set μ 52 ((nI n).toNatClampNeg) (nI c)).1 47 9 = μ.1 47 9 from by rw [pm_set_miss] <;> omega]
  rw [h9]
  try rw [nI_clamp (n := n) (by omega)]
  refine pm_bl [(.iconst 1, 1, 0, 0, 1), (.iadd, 1, 0, 0, 0), (.putfield 167, 3, 10, 9, 0)] (pc1 := 20) (lo1 := [some (.ref 47), some (.int (nI c))]) (st1 := []) (μ1 := pm_set (pm_set μ 52 n (nI c)) 47 9 ((nI n) + 1)) (vc := True) rfl (by decide +kernel) rfl trivial ?_
  exact pm_vret rfl (by decide) (by decide) (by decide +kernel) (⟨rfl, by rw [nI_1, ← hn]; exact hN.add⟩)
set_option maxHeartbeats 4000000 in
set_option maxRecDepth 100000 in
theorem c_X10_saysNumber {μ0 : pm_Mm} {L : List Nat} {v1 : Nat} {x : Int32} (hx : x = nI v1) (hv : v1 < 1000) (μ : pm_Mm) (hN : lr_Nt μ0 L μ) (hL : L.length + 3 ≤ 40) : pm_CT mi_X10_saysNumber [.ref 47, .int x] μ (fun v μ2 => v = none ∧ lr_Nt μ0 (L ++ lr_dg v1) μ2) pm_NX := by
  subst hx
  refine pm_CT_of (lo := [some (.ref 47), some (.int (nI v1))]) (by decide +kernel) rfl rfl (by intro v hv; simp at hv; rcases hv with rfl | rfl <;> rfl) (Nat.le_of_ble_eq_true rfl) rfl ?_
  have i3 : nI v1 ≤ 99 ↔ v1 ≤ 99 := nJ_le (b := 99) (by omega) (by omega)
  have i9 : nI v1 ≤ 9 ↔ v1 ≤ 9 := nJ_le (b := 9) (by omega) (by omega)
  have e1 : 48 + nI v1 / 100 = nI (48 + v1 / 100) := by rw [show (100 : Int32) = nI 100 from rfl, show (48 : Int32) = nI 48 from rfl, nI_div (by omega) (by decide), nI_add]
  have e2 : 48 + (nI v1 / 10 - nI v1 / 10 / 10 * 10) = nI (48 + v1 / 10 % 10) := by rw [show (10 : Int32) = nI 10 from rfl, show (48 : Int32) = nI 48 from rfl, nI_div (by omega) (by decide), nI_mod (by omega) (by decide), nI_add]
  have e3 : 48 + (nI v1 - nI v1 / 10 * 10) = nI (48 + v1 % 10) := by rw [show (10 : Int32) = nI 10 from rfl, show (48 : Int32) = nI 48 from rfl, nI_mod (by omega) (by decide), nI_add]
  refine pm_bl [(.iload_n 1, 1, 1, 0, 0), (.bipush 99, 2, 0, 0, 99)] (pc1 := 3) (lo1 := [some (.ref 47), some (.int (nI v1))]) (st1 := [.int 99, .int (nI v1)]) (μ1 := μ) (vc := True) rfl (by decide +kernel) rfl trivial ?_
  refine pm_icmp_le (off := 14) 17 (by decide +kernel) (by decide) (fun (h3 : (nI v1) ≤ 99) => ?_) (fun (h3 : ¬ ((nI v1) ≤ 99)) => ?_)
  · refine pm_bl [(.iload_n 1, 1, 1, 0, 0), (.bipush 9, 2, 0, 0, 9)] (pc1 := 20) (lo1 := [some (.ref 47), some (.int (nI v1))]) (st1 := [.int 9, .int (nI v1)]) (μ1 := μ) (vc := True) rfl (by decide +kernel) rfl trivial ?_
    refine pm_icmp_le (off := 17) 37 (by decide +kernel) (by decide) (fun (h20 : (nI v1) ≤ 9) => ?_) (fun (h20 : ¬ ((nI v1) ≤ 9)) => ?_)
    · refine pm_bl [(.aload_n 0, 1, 0, 0, 0), (.bipush 48, 2, 0, 0, 48), (.iload_n 1, 1, 1, 0, 0), (.bipush 10, 2, 0, 0, 10), (.irem, 1, 0, 0, 0), (.iadd, 1, 0, 0, 0)] (pc1 := 45) (lo1 := [some (.ref 47), some (.int (nI v1))]) (st1 := [.int (48 + ((nI v1) - (nI v1) / 10 * 10)), .ref 47]) (μ1 := μ) (vc := (¬ 10 = 0) ∧ True) rfl (by decide +kernel) rfl ⟨(by decide), trivial⟩ ?_
      refine pm_callV2 mi_X10_says (ix := 170) (b := 47) (ci := 10) (kc2 := 0) (ks2 := 0) (As := [.int (48 + ((nI v1) - (nI v1) / 10 * 10))]) (rest := []) (c_X10_says (c := 48 + v1 % 10) e3 μ hN (by first | omega | (simp only [List.length_append, List.length_cons, List.length_nil]; omega))) cal_X10_says lk10_170 (by decide +kernel) rfl (by decide +kernel) rfl rfl rfl rfl (Nat.le_of_ble_eq_true rfl) (by decide) (by decide) (fun _ _ h9 => h9.elim) ?_
      rintro _ μ3 ⟨rfl, hN3⟩
      show pm_V _ _ _ _ 48 _ [] _
      exact pm_vret rfl (by decide) (by decide) (by decide +kernel) (⟨rfl, by have q := hN3; rw [i3] at h3; rw [i9] at h20; unfold lr_dg; (first | rw [if_neg (show ¬ 99 < v1 by omega)] | rw [if_pos (show 99 < v1 by omega)]); first | (exfalso; omega) | (rw [if_neg (show ¬ 9 < v1 by omega)]; simpa using q) | (rw [if_pos (show 9 < v1 by omega)]; simpa using q)⟩)
    · refine pm_bl [(.aload_n 0, 1, 0, 0, 0), (.bipush 48, 2, 0, 0, 48), (.iload_n 1, 1, 1, 0, 0), (.bipush 10, 2, 0, 0, 10), (.idiv, 1, 0, 0, 0), (.bipush 10, 2, 0, 0, 10), (.irem, 1, 0, 0, 0), (.iadd, 1, 0, 0, 0)] (pc1 := 34) (lo1 := [some (.ref 47), some (.int (nI v1))]) (st1 := [.int (48 + (((nI v1) / 10) - ((nI v1) / 10) / 10 * 10)), .ref 47]) (μ1 := μ) (vc := (¬ 10 = 0) ∧ (¬ 10 = 0) ∧ True) rfl (by decide +kernel) rfl ⟨(by decide), (by decide), trivial⟩ ?_
      refine pm_callV2 mi_X10_says (ix := 170) (b := 47) (ci := 10) (kc2 := 0) (ks2 := 0) (As := [.int (48 + (((nI v1) / 10) - ((nI v1) / 10) / 10 * 10))]) (rest := []) (c_X10_says (c := 48 + v1 / 10 % 10) e2 μ hN (by first | omega | (simp only [List.length_append, List.length_cons, List.length_nil]; omega))) cal_X10_says lk10_170 (by decide +kernel) rfl (by decide +kernel) rfl rfl rfl rfl (Nat.le_of_ble_eq_true rfl) (by decide) (by decide) (fun _ _ h9 => h9.elim) ?_
      rintro _ μ4 ⟨rfl, hN4⟩
      show pm_V _ _ _ _ 37 _ [] _
      refine pm_bl [(.aload_n 0, 1, 0, 0, 0), (.bipush 48, 2, 0, 0, 48), (.iload_n 1, 1, 1, 0, 0), (.bipush 10, 2, 0, 0, 10), (.irem, 1, 0, 0, 0), (.iadd, 1, 0, 0, 0)] (pc1 := 45) (lo1 := [some (.ref 47), some (.int (nI v1))]) (st1 := [.int (48 + ((nI v1) - (nI v1) / 10 * 10)), .ref 47]) (μ1 := μ4) (vc := (¬ 10 = 0) ∧ True) rfl (by decide +kernel) rfl ⟨(by decide), trivial⟩ ?_
      refine pm_callV2 mi_X10_says (ix := 170) (b := 47) (ci := 10) (kc2 := 0) (ks2 := 0) (As := [.int (48 + ((nI v1) - (nI v1) / 10 * 10))]) (rest := []) (c_X10_says (c := 48 + v1 % 10) e3 μ4 hN4 (by first | omega | (simp only [List.length_append, List.length_cons, List.length_nil]; omega))) cal_X10_says lk10_170 (by decide +kernel) rfl (by decide +kernel) rfl rfl rfl rfl (Nat.le_of_ble_eq_true rfl) (by decide) (by decide) (fun _ _ h9 => h9.elim) ?_
      rintro _ μ5 ⟨rfl, hN5⟩
      show pm_V _ _ _ _ 48 _ [] _
      exact pm_vret rfl (by decide) (by decide) (by decide +kernel) (⟨rfl, by have q := hN5; rw [i3] at h3; rw [i9] at h20; unfold lr_dg; (first | rw [if_neg (show ¬ 99 < v1 by omega)] | rw [if_pos (show 99 < v1 by omega)]); first | (exfalso; omega) | (rw [if_neg (show ¬ 9 < v1 by omega)]; simpa using q) | (rw [if_pos (show 9 < v1 by omega)]; simpa using q)⟩)
  · refine pm_bl [(.aload_n 0, 1, 0, 0, 0), (.bipush 48, 2, 0, 0, 48), (.iload_n 1, 1, 1, 0, 0), (.bipush 100, 2, 0, 0, 100), (.idiv, 1, 0, 0, 0), (.iadd, 1, 0, 0, 0)] (pc1 := 14) (lo1 := [some (.ref 47), some (.int (nI v1))]) (st1 := [.int (48 + ((nI v1) / 100)), .ref 47]) (μ1 := μ) (vc := (¬ 100 = 0) ∧ True) rfl (by decide +kernel) rfl ⟨(by decide), trivial⟩ ?_
    refine pm_callV2 mi_X10_says (ix := 170) (b := 47) (ci := 10) (kc2 := 0) (ks2 := 0) (As := [.int (48 + ((nI v1) / 100))]) (rest := []) (c_X10_says (c := 48 + v1 / 100) e1 μ hN (by first | omega | (simp only [List.length_append, List.length_cons, List.length_nil]; omega))) cal_X10_says lk10_170 (by decide +kernel) rfl (by decide +kernel) rfl rfl rfl rfl (Nat.le_of_ble_eq_true rfl) (by decide) (by decide) (fun _ _ h9 => h9.elim) ?_
    rintro _ μ6 ⟨rfl, hN6⟩
    show pm_V _ _ _ _ 17 _ [] _
    refine pm_bl [(.iload_n 1, 1, 1, 0, 0), (.bipush 9, 2, 0, 0, 9)] (pc1 := 20) (lo1 := [some (.ref 47), some (.int (nI v1))]) (st1 := [.int 9, .int (nI v1)]) (μ1 := μ6) (vc := True) rfl (by decide +kernel) rfl trivial ?_
    refine pm_icmp_le (off := 17) 37 (by decide +kernel) (by decide) (fun (h20 : (nI v1) ≤ 9) => ?_) (fun (h20 : ¬ ((nI v1) ≤ 9)) => ?_)
    · refine pm_bl [(.aload_n 0, 1, 0, 0, 0), (.bipush 48, 2, 0, 0, 48), (.iload_n 1, 1, 1, 0, 0), (.bipush 10, 2, 0, 0, 10), (.irem, 1, 0, 0, 0), (.iadd, 1, 0, 0, 0)] (pc1 := 45) (lo1 := [some (.ref 47), some (.int (nI v1))]) (st1 := [.int (48 + ((nI v1) - (nI v1) / 10 * 10)), .ref 47]) (μ1 := μ6) (vc := (¬ 10 = 0) ∧ True) rfl (by decide +kernel) rfl ⟨(by decide), trivial⟩ ?_
      refine pm_callV2 mi_X10_says (ix := 170) (b := 47) (ci := 10) (kc2 := 0) (ks2 := 0) (As := [.int (48 + ((nI v1) - (nI v1) / 10 * 10))]) (rest := []) (c_X10_says (c := 48 + v1 % 10) e3 μ6 hN6 (by first | omega | (simp only [List.length_append, List.length_cons, List.length_nil]; omega))) cal_X10_says lk10_170 (by decide +kernel) rfl (by decide +kernel) rfl rfl rfl rfl (Nat.le_of_ble_eq_true rfl) (by decide) (by decide) (fun _ _ h9 => h9.elim) ?_
      rintro _ μ7 ⟨rfl, hN7⟩
      show pm_V _ _ _ _ 48 _ [] _
      exact pm_vret rfl (by decide) (by decide) (by decide +kernel) (⟨rfl, by have q := hN7; rw [i3] at h3; rw [i9] at h20; unfold lr_dg; (first | rw [if_neg (show ¬ 99 < v1 by omega)] | rw [if_pos (show 99 < v1 by omega)]); first | (exfalso; omega) | (rw [if_neg (show ¬ 9 < v1 by omega)]; simpa using q) | (rw [if_pos (show 9 < v1 by omega)]; simpa using q)⟩)
    · refine pm_bl [(.aload_n 0, 1, 0, 0, 0), (.bipush 48, 2, 0, 0, 48), (.iload_n 1, 1, 1, 0, 0), (.bipush 10, 2, 0, 0, 10), (.idiv, 1, 0, 0, 0), (.bipush 10, 2, 0, 0, 10), (.irem, 1, 0, 0, 0), (.iadd, 1, 0, 0, 0)] (pc1 := 34) (lo1 := [some (.ref 47), some (.int (nI v1))]) (st1 := [.int (48 + (((nI v1) / 10) - ((nI v1) / 10) / 10 * 10)), .ref 47]) (μ1 := μ6) (vc := (¬ 10 = 0) ∧ (¬ 10 = 0) ∧ True) rfl (by decide +kernel) rfl ⟨(by decide), (by decide), trivial⟩ ?_
      refine pm_callV2 mi_X10_says (ix := 170) (b := 47) (ci := 10) (kc2 := 0) (ks2 := 0) (As := [.int (48 + (((nI v1) / 10) - ((nI v1) / 10) / 10 * 10))]) (rest := []) (c_X10_says (c := 48 + v1 / 10 % 10) e2 μ6 hN6 (by first | omega | (simp only [List.length_append, List.length_cons, List.length_nil]; omega))) cal_X10_says lk10_170 (by decide +kernel) rfl (by decide +kernel) rfl rfl rfl rfl (Nat.le_of_ble_eq_true rfl) (by decide) (by decide) (fun _ _ h9 => h9.elim) ?_
      rintro _ μ8 ⟨rfl, hN8⟩
      show pm_V _ _ _ _ 37 _ [] _
      refine pm_bl [(.aload_n 0, 1, 0, 0, 0), (.bipush 48, 2, 0, 0, 48), (.iload_n 1, 1, 1, 0, 0), (.bipush 10, 2, 0, 0, 10), (.irem, 1, 0, 0, 0), (.iadd, 1, 0, 0, 0)] (pc1 := 45) (lo1 := [some (.ref 47), some (.int (nI v1))]) (st1 := [.int (48 + ((nI v1) - (nI v1) / 10 * 10)), .ref 47]) (μ1 := μ8) (vc := (¬ 10 = 0) ∧ True) rfl (by decide +kernel) rfl ⟨(by decide), trivial⟩ ?_
      refine pm_callV2 mi_X10_says (ix := 170) (b := 47) (ci := 10) (kc2 := 0) (ks2 := 0) (As := [.int (48 + ((nI v1) - (nI v1) / 10 * 10))]) (rest := []) (c_X10_says (c := 48 + v1 % 10) e3 μ8 hN8 (by first | omega | (simp only [List.length_append, List.length_cons, List.length_nil]; omega))) cal_X10_says lk10_170 (by decide +kernel) rfl (by decide +kernel) rfl rfl rfl rfl (Nat.le_of_ble_eq_true rfl) (by decide) (by decide) (fun _ _ h9 => h9.elim) ?_
      rintro _ μ9 ⟨rfl, hN9⟩
      show pm_V _ _ _ _ 48 _ [] _
      exact pm_vret rfl (by decide) (by decide) (by decide +kernel) (⟨rfl, by have q := hN9; rw [i3] at h3; rw [i9] at h20; unfold lr_dg; (first | rw [if_neg (show ¬ 99 < v1 by omega)] | rw [if_pos (show 99 < v1 by omega)]); first | (exfalso; omega) | (rw [if_neg (show ¬ 9 < v1 by omega)]; simpa using q) | (rw [if_pos (show 9 < v1 by omega)]; simpa using q)⟩)
