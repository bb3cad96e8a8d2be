/-! the class: its text, one letter -/
/-- the class reads at s a text t of n signs -/
def lr_Ty (t : Nat → Int32) (n s : Nat) (μ : pm_Mm) : Prop := μ.1 40 6 = nI s ∧ μ.1 40 0 = nI n ∧ n ≤ 40 ∧ s ≤ 40 ∧ ∀ i, i < n → μ.1 44 i = t i
theorem lr_Ty.set {t : Nat → Int32} {n s s2 : Nat} {μ : pm_Mm} (h : lr_Ty t n s μ) (hs : s2 ≤ 40) : lr_Ty t n s2 (pm_set μ 40 6 (nI s2)) := ⟨by rw [pm_set_hit], by rw [pm_set_miss (Or.inr (by decide))]; exact h.2.1, h.2.2.1, hs, fun i hi => by rw [pm_set_off (by decide)]; exact h.2.2.2.2 i hi⟩
theorem lr_Ty.tl {t : Nat → Int32} {n s r k : Nat} {v : Int32} {μ : pm_Mm} (h : lr_Ty t n s μ) (hr : (41 ≤ r ∧ r ≤ 43) ∨ (r = 40 ∧ k = 1)) : lr_Ty t n s (pm_set μ r k v) := ⟨by rw [pm_set_miss (by omega)]; exact h.1, by rw [pm_set_miss (by omega)]; exact h.2.1, h.2.2.1, h.2.2.2.1, fun i hi => by rw [pm_set_off (by omega)]; exact h.2.2.2.2 i hi⟩
/-- what a letter read may move in the class -/
def lr_Fk (μ0 : pm_Mm) (k : Nat) (μ : pm_Mm) : Prop := (∀ i j, ¬ (41 ≤ i ∧ i ≤ 43) → ¬ (i = 40 ∧ (j = 1 ∨ j = 6)) → μ.1 i j = μ0.1 i j) ∧ μ.2 = μ0.2 ∧ ∀ i j, 41 ≤ i → i ≤ 43 → j < k → μ.1 i j = μ0.1 i j
theorem lr_Fk.rf {μ0 : pm_Mm} {k : Nat} : lr_Fk μ0 k μ0 := ⟨fun _ _ _ _ => rfl, rfl, fun _ _ _ _ _ => rfl⟩
theorem lr_Fk.st {μ0 μ : pm_Mm} {k r j : Nat} {v : Int32} (h : lr_Fk μ0 k μ) (hr : (41 ≤ r ∧ r ≤ 43 ∧ k ≤ j) ∨ (r = 40 ∧ (j = 1 ∨ j = 6))) : lr_Fk μ0 k (pm_set μ r j v) := by
  refine ⟨fun i x h1 h2 => ?_, h.2.1, fun i x h1 h2 hx => ?_⟩
  · show (if i = r ∧ x = j then v else μ.1 i x) = _
    rw [if_neg (by omega)]; exact h.1 i x h1 h2
  · show (if i = r ∧ x = j then v else μ.1 i x) = _
    rw [if_neg (by omega)]; exact h.2.2 i x h1 h2 hx
def lr_Cq (t : Nat → Int32) (n : Nat) (μ0 : pm_Mm) (k : Nat) (q : Option (Int32 × Int32 × Int32) × Nat) (v : Option Value) (μ2 : pm_Mm) : Prop := lr_Ty t n q.2 μ2 ∧ lr_Fk μ0 k μ2 ∧ (q.1 = none → v = some (.int 0) ∧ μ2.1 40 1 = nI k) ∧ (∀ a b c, q.1 = some (a, b, c) → v = some (.int 1) ∧ μ2.1 40 1 = nI (k + 1) ∧ μ2.1 41 k = a ∧ μ2.1 42 k = b ∧ μ2.1 43 k = c)
theorem lr_in49 (x : Int32) : lr_in x 49 57 = true ↔ (lr_in x 48 57 = true ∧ ¬ x = 48) := by
  unfold lr_in
  simp only [Bool.and_eq_true, Bool.not_eq_true', decide_eq_false_iff_not, Int32.lt_iff_toInt_lt]
  rw [show (49 : Int32).toInt = 49 from rfl, show (48 : Int32).toInt = 48 from rfl, show (57 : Int32).toInt = 57 from rfl, ← Int32.toInt_inj, show (48 : Int32).toInt = 48 from rfl]
  omega
set_option maxHeartbeats 4000000 in
set_option maxRecDepth 100000 in
theorem c_X1_isNext_y {t : Nat → Int32} {n s : Nat} {c : Int32} (hc : ¬ c = -1) (μ : pm_Mm) (hT : lr_Ty t n s μ) (h : lr_hr t n s = c) : pm_CT mi_X1_isNext [.ref 40, .int c] μ (fun v μ2 => v = some (.int (1)) ∧ μ2 = μ) pm_NX := by
  refine pm_CT_of (lo := [some (.ref 40), some (.int c)]) (by decide +kernel) rfl rfl (by intro v hv; simp at hv; rcases hv with rfl | rfl <;> rfl) (Nat.le_of_ble_eq_true rfl) rfl ?_
  obtain ⟨h6, h0, hn, hs, ht⟩ := id hT
  have hsn := lr_hr_lt (t := t) (n := n) (s := s) (by rw [h]; exact hc)
  have e : t s = c := by unfold lr_hr at h; rw [if_pos hsn] at h; exact h
  refine pm_bl [(.aload_n 0, 1, 0, 0, 0), (.getfield 32, 3, 1, 6, 0)] (pc1 := 4) (lo1 := [some (.ref 40), some (.int c)]) (st1 := [.int (μ.1 40 6)]) (μ1 := μ) (vc := True) rfl (by decide +kernel) rfl trivial ?_
  rw [show μ.1 40 6 = nI s from by first | exact h6 | (rw [pm_set_off (by decide)]; exact h6)]
  refine pm_bl [(.aload_n 0, 1, 0, 0, 0), (.getfield 9, 3, 1, 0, 0)] (pc1 := 8) (lo1 := [some (.ref 40), some (.int c)]) (st1 := [.int (μ.1 40 0), .int (nI s)]) (μ1 := μ) (vc := True) rfl (by decide +kernel) rfl trivial ?_
  rw [h0]
  refine pm_icmp_ge (off := 20) 28 (by decide +kernel) (by decide) (fun (h9 : (nI n) ≤ (nI s)) => absurd h9 (nI_ge hsn (by omega))) (fun (h8 : ¬ ((nI n) ≤ (nI s))) => ?_)
  refine pm_bl [(.aload_n 0, 1, 0, 0, 0), (.getfield 28, 3, 1, 5, 0), (.aload_n 0, 1, 0, 0, 0), (.getfield 32, 3, 1, 6, 0)] (pc1 := 19) (lo1 := [some (.ref 40), some (.int c)]) (st1 := [.int (μ.1 40 6), .ref 44]) (μ1 := μ) (vc := True) rfl (by decide +kernel) rfl trivial ?_
  rw [show μ.1 40 6 = nI s from by first | exact h6 | (rw [pm_set_off (by decide)]; exact h6)]
  refine pm_bl [(.caload, 1, 0, 0, 0)] (pc1 := 20) (lo1 := [some (.ref 40), some (.int c)]) (st1 := [.int (μ.1 44 (nI s).toNatClampNeg)]) (μ1 := μ) (vc := vp_in (nI s) 40 ∧ True) rfl (by decide +kernel) rfl ⟨(vp_in_nI (by omega) (by omega)), trivial⟩ ?_
  rw [nI_clamp (n := s) (by omega), ht s hsn]
  refine pm_bl [(.iload_n 1, 1, 1, 0, 0)] (pc1 := 21) (lo1 := [some (.ref 40), some (.int c)]) (st1 := [.int c, .int (t s)]) (μ1 := μ) (vc := True) rfl (by decide +kernel) rfl trivial ?_
  refine pm_icmp_ne (off := 7) 28 (by decide +kernel) (by decide) (fun (h9 : ¬ (t s) = c) => absurd e h9) (fun (h21 : (t s) = c) => ?_)
  refine pm_bl [(.iconst 1, 1, 0, 0, 1), (.goto 4, 3, 29, 0, 0)] (pc1 := 29) (lo1 := [some (.ref 40), some (.int c)]) (st1 := [.int 1]) (μ1 := μ) (vc := True) rfl (by decide +kernel) rfl trivial ?_
  exact pm_iret (ty := .boolean) rfl (rfl) (by decide) (by decide) (by decide +kernel) (⟨rfl, rfl⟩)
set_option maxHeartbeats 4000000 in
set_option maxRecDepth 100000 in
theorem c_X1_isNext_n {t : Nat → Int32} {n s : Nat} {c : Int32} (hc : ¬ c = -1) (μ : pm_Mm) (hT : lr_Ty t n s μ) (h : ¬ lr_hr t n s = c) : pm_CT mi_X1_isNext [.ref 40, .int c] μ (fun v μ2 => v = some (.int (0)) ∧ μ2 = μ) pm_NX := by
  refine pm_CT_of (lo := [some (.ref 40), some (.int c)]) (by decide +kernel) rfl rfl (by intro v hv; simp at hv; rcases hv with rfl | rfl <;> rfl) (Nat.le_of_ble_eq_true rfl) rfl ?_
  obtain ⟨h6, h0, hn, hs, ht⟩ := id hT
  by_cases hsn : s < n
  · have e : ¬ t s = c := fun q => h (by unfold lr_hr; rw [if_pos hsn]; exact q)
    refine pm_bl [(.aload_n 0, 1, 0, 0, 0), (.getfield 32, 3, 1, 6, 0)] (pc1 := 4) (lo1 := [some (.ref 40), some (.int c)]) (st1 := [.int (μ.1 40 6)]) (μ1 := μ) (vc := True) rfl (by decide +kernel) rfl trivial ?_
    rw [show μ.1 40 6 = nI s from by first | exact h6 | (rw [pm_set_off (by decide)]; exact h6)]
    refine pm_bl [(.aload_n 0, 1, 0, 0, 0), (.getfield 9, 3, 1, 0, 0)] (pc1 := 8) (lo1 := [some (.ref 40), some (.int c)]) (st1 := [.int (μ.1 40 0), .int (nI s)]) (μ1 := μ) (vc := True) rfl (by decide +kernel) rfl trivial ?_
    rw [h0]
    refine pm_icmp_ge (off := 20) 28 (by decide +kernel) (by decide) (fun (h9 : (nI n) ≤ (nI s)) => absurd h9 (nI_ge hsn (by omega))) (fun (h8 : ¬ ((nI n) ≤ (nI s))) => ?_)
    refine pm_bl [(.aload_n 0, 1, 0, 0, 0), (.getfield 28, 3, 1, 5, 0), (.aload_n 0, 1, 0, 0, 0), (.getfield 32, 3, 1, 6, 0)] (pc1 := 19) (lo1 := [some (.ref 40), some (.int c)]) (st1 := [.int (μ.1 40 6), .ref 44]) (μ1 := μ) (vc := True) rfl (by decide +kernel) rfl trivial ?_
    rw [show μ.1 40 6 = nI s from by first | exact h6 | (rw [pm_set_off (by decide)]; exact h6)]
    refine pm_bl [(.caload, 1, 0, 0, 0)] (pc1 := 20) (lo1 := [some (.ref 40), some (.int c)]) (st1 := [.int (μ.1 44 (nI s).toNatClampNeg)]) (μ1 := μ) (vc := vp_in (nI s) 40 ∧ True) rfl (by decide +kernel) rfl ⟨(vp_in_nI (by omega) (by omega)), trivial⟩ ?_
    rw [nI_clamp (n := s) (by omega), ht s hsn]
    refine pm_bl [(.iload_n 1, 1, 1, 0, 0)] (pc1 := 21) (lo1 := [some (.ref 40), some (.int c)]) (st1 := [.int c, .int (t s)]) (μ1 := μ) (vc := True) rfl (by decide +kernel) rfl trivial ?_
    refine pm_icmp_ne (off := 7) 28 (by decide +kernel) (by decide) (fun (h21 : ¬ (t s) = c) => ?_) (fun (h9 : (t s) = c) => absurd h9 e)
    refine pm_bl [(.iconst 0, 1, 0, 0, 0)] (pc1 := 29) (lo1 := [some (.ref 40), some (.int c)]) (st1 := [.int 0]) (μ1 := μ) (vc := True) rfl (by decide +kernel) rfl trivial ?_
    exact pm_iret (ty := .boolean) rfl (rfl) (by decide) (by decide) (by decide +kernel) (⟨rfl, rfl⟩)
  · refine pm_bl [(.aload_n 0, 1, 0, 0, 0), (.getfield 32, 3, 1, 6, 0)] (pc1 := 4) (lo1 := [some (.ref 40), some (.int c)]) (st1 := [.int (μ.1 40 6)]) (μ1 := μ) (vc := True) rfl (by decide +kernel) rfl trivial ?_
    rw [show μ.1 40 6 = nI s from by first | exact h6 | (rw [pm_set_off (by decide)]; exact h6)]
    refine pm_bl [(.aload_n 0, 1, 0, 0, 0), (.getfield 9, 3, 1, 0, 0)] (pc1 := 8) (lo1 := [some (.ref 40), some (.int c)]) (st1 := [.int (μ.1 40 0), .int (nI s)]) (μ1 := μ) (vc := True) rfl (by decide +kernel) rfl trivial ?_
    rw [h0]
    refine pm_icmp_ge (off := 20) 28 (by decide +kernel) (by decide) (fun (h8 : (nI n) ≤ (nI s)) => ?_) (fun (h9 : ¬ ((nI n) ≤ (nI s))) => absurd (nI_le (by omega) (by omega)) h9)
    refine pm_bl [(.iconst 0, 1, 0, 0, 0)] (pc1 := 29) (lo1 := [some (.ref 40), some (.int c)]) (st1 := [.int 0]) (μ1 := μ) (vc := True) rfl (by decide +kernel) rfl trivial ?_
    exact pm_iret (ty := .boolean) rfl (rfl) (by decide) (by decide) (by decide +kernel) (⟨rfl, rfl⟩)
set_option maxHeartbeats 4000000 in
set_option maxRecDepth 100000 in
theorem c_X1_skip_y {t : Nat → Int32} {n s : Nat} {c : Int32} (hc : ¬ c = -1) (μ : pm_Mm) (hT : lr_Ty t n s μ) (h : lr_hr t n s = c) : pm_CT mi_X1_skip [.ref 40, .int c] μ (fun v μ2 => v = some (.int 1) ∧ μ2 = pm_set μ 40 6 (nI (s + 1))) pm_NX := by
  refine pm_CT_of (lo := [some (.ref 40), some (.int c)]) (by decide +kernel) rfl rfl (by intro v hv; simp at hv; rcases hv with rfl | rfl <;> rfl) (Nat.le_of_ble_eq_true rfl) rfl ?_
  obtain ⟨h6, h0, hn, hs, ht⟩ := id hT
  refine pm_bl [(.aload_n 0, 1, 0, 0, 0), (.iload_n 1, 1, 1, 0, 0)] (pc1 := 2) (lo1 := [some (.ref 40), some (.int c)]) (st1 := [.int c, .ref 40]) (μ1 := μ) (vc := True) rfl (by decide +kernel) rfl trivial ?_
  refine pm_callV2 mi_X1_isNext (ix := 50) (b := 40) (ci := 1) (kc2 := 0) (ks2 := 0) (As := [.int c]) (rest := []) (c_X1_isNext_y hc μ hT h) cal_X1_isNext lk1_50 (by decide +kernel) rfl (by decide +kernel) rfl rfl rfl rfl (Nat.le_of_ble_eq_true rfl) (by decide) (by decide) (fun _ _ h9 => h9.elim) ?_
  rintro _ _ ⟨rfl, h9⟩; rw [h9]; clear h9
  show pm_V _ _ _ _ 5 _ [.int 1] _
  refine pm_if_ne (off := 5) 10 (by decide +kernel) (by decide) (fun _ => ?_) (fun h9 => absurd h9 (by decide))
  refine pm_bl [(.aload_n 0, 1, 0, 0, 0), (.dup, 1, 0, 0, 0), (.getfield 32, 3, 1, 6, 0)] (pc1 := 15) (lo1 := [some (.ref 40), some (.int c)]) (st1 := [.int (μ.1 40 6), .ref 40]) (μ1 := μ) (vc := True) rfl (by decide +kernel) rfl trivial ?_
  rw [show μ.1 40 6 = nI s from by first | exact h6 | (rw [pm_set_off (by decide)]; exact h6)]
  refine pm_bl [(.iconst 1, 1, 0, 0, 1), (.iadd, 1, 0, 0, 0), (.putfield 32, 3, 1, 6, 0), (.iconst 1, 1, 0, 0, 1)] (pc1 := 21) (lo1 := [some (.ref 40), some (.int c)]) (st1 := [.int 1]) (μ1 := pm_set μ 40 6 ((nI s) + 1)) (vc := True) rfl (by decide +kernel) rfl trivial ?_
  exact pm_iret (ty := .boolean) rfl (rfl) (by decide) (by decide) (by decide +kernel) (⟨rfl, by first | rfl | rw [nI_1]⟩)
set_option maxHeartbeats 4000000 in
set_option maxRecDepth 100000 in
theorem c_X1_skip_n {t : Nat → Int32} {n s : Nat} {c : Int32} (hc : ¬ c = -1) (μ : pm_Mm) (hT : lr_Ty t n s μ) (h : ¬ lr_hr t n s = c) : pm_CT mi_X1_skip [.ref 40, .int c] μ (fun v μ2 => v = some (.int 0) ∧ μ2 = μ) pm_NX := by
  refine pm_CT_of (lo := [some (.ref 40), some (.int c)]) (by decide +kernel) rfl rfl (by intro v hv; simp at hv; rcases hv with rfl | rfl <;> rfl) (Nat.le_of_ble_eq_true rfl) rfl ?_
  obtain ⟨h6, h0, hn, hs, ht⟩ := id hT
  refine pm_bl [(.aload_n 0, 1, 0, 0, 0), (.iload_n 1, 1, 1, 0, 0)] (pc1 := 2) (lo1 := [some (.ref 40), some (.int c)]) (st1 := [.int c, .ref 40]) (μ1 := μ) (vc := True) rfl (by decide +kernel) rfl trivial ?_
  refine pm_callV2 mi_X1_isNext (ix := 50) (b := 40) (ci := 1) (kc2 := 0) (ks2 := 0) (As := [.int c]) (rest := []) (c_X1_isNext_n hc μ hT h) cal_X1_isNext lk1_50 (by decide +kernel) rfl (by decide +kernel) rfl rfl rfl rfl (Nat.le_of_ble_eq_true rfl) (by decide) (by decide) (fun _ _ h9 => h9.elim) ?_
  rintro _ _ ⟨rfl, h9⟩; rw [h9]; clear h9
  show pm_V _ _ _ _ 5 _ [.int 0] _
  refine pm_if_ne (off := 5) 10 (by decide +kernel) (by decide) (fun h9 => absurd h9 (by decide)) (fun _ => ?_)
  refine pm_bl [(.iconst 0, 1, 0, 0, 0)] (pc1 := 9) (lo1 := [some (.ref 40), some (.int c)]) (st1 := [.int 0]) (μ1 := μ) (vc := True) rfl (by decide +kernel) rfl trivial ?_
  exact pm_iret (ty := .boolean) rfl (rfl) (by decide) (by decide) (by decide +kernel) (⟨rfl, by first | rfl | rw [nI_1]⟩)
set_option maxHeartbeats 4000000 in
set_option maxRecDepth 100000 in
theorem c_X1_isDigit {t : Nat → Int32} {n s : Nat} (μ : pm_Mm) (hT : lr_Ty t n s μ) : pm_CT mi_X1_isDigit [.ref 40] μ (fun v μ2 => v = some (.int (lr_b (lr_in (lr_hr t n s) 48 57))) ∧ μ2 = μ) pm_NX := by
  refine pm_CT_of (lo := [some (.ref 40)]) (by decide +kernel) rfl rfl (by intro v hv; simp at hv; rcases hv with rfl <;> rfl) (Nat.le_of_ble_eq_true rfl) rfl ?_
  obtain ⟨h6, h0, hn, hs, ht⟩ := id hT
  by_cases hsn : s < n
  · have e : lr_hr t n s = t s := by unfold lr_hr; rw [if_pos hsn]
    rw [e]
    refine pm_bl [(.aload_n 0, 1, 0, 0, 0), (.getfield 32, 3, 1, 6, 0)] (pc1 := 4) (lo1 := [some (.ref 40)]) (st1 := [.int (μ.1 40 6)]) (μ1 := μ) (vc := True) rfl (by decide +kernel) rfl trivial ?_
    rw [show μ.1 40 6 = nI s from by first | exact h6 | (rw [pm_set_off (by decide)]; exact h6)]
    refine pm_bl [(.aload_n 0, 1, 0, 0, 0), (.getfield 9, 3, 1, 0, 0)] (pc1 := 8) (lo1 := [some (.ref 40)]) (st1 := [.int (μ.1 40 0), .int (nI s)]) (μ1 := μ) (vc := True) rfl (by decide +kernel) rfl trivial ?_
    rw [h0]
    refine pm_icmp_ge (off := 35) 43 (by decide +kernel) (by decide) (fun (h9 : (nI n) ≤ (nI s)) => absurd h9 (nI_ge hsn (by omega))) (fun (h8 : ¬ ((nI n) ≤ (nI s))) => ?_)
    refine pm_bl [(.aload_n 0, 1, 0, 0, 0), (.getfield 28, 3, 1, 5, 0), (.aload_n 0, 1, 0, 0, 0), (.getfield 32, 3, 1, 6, 0)] (pc1 := 19) (lo1 := [some (.ref 40)]) (st1 := [.int (μ.1 40 6), .ref 44]) (μ1 := μ) (vc := True) rfl (by decide +kernel) rfl trivial ?_
    rw [show μ.1 40 6 = nI s from by first | exact h6 | (rw [pm_set_off (by decide)]; exact h6)]
    refine pm_bl [(.caload, 1, 0, 0, 0)] (pc1 := 20) (lo1 := [some (.ref 40)]) (st1 := [.int (μ.1 44 (nI s).toNatClampNeg)]) (μ1 := μ) (vc := vp_in (nI s) 40 ∧ True) rfl (by decide +kernel) rfl ⟨(vp_in_nI (by omega) (by omega)), trivial⟩ ?_
    rw [nI_clamp (n := s) (by omega), ht s hsn]
    refine pm_bl [(.bipush 48, 2, 0, 0, 48)] (pc1 := 22) (lo1 := [some (.ref 40)]) (st1 := [.int 48, .int (t s)]) (μ1 := μ) (vc := True) rfl (by decide +kernel) rfl trivial ?_
    refine pm_icmp_lt (off := 21) 43 (by decide +kernel) (by decide) (fun (h22 : (t s) < 48) => ?_) (fun (h22 : ¬ ((t s) < 48)) => ?_)
    · refine pm_bl [(.iconst 0, 1, 0, 0, 0)] (pc1 := 44) (lo1 := [some (.ref 40)]) (st1 := [.int 0]) (μ1 := μ) (vc := True) rfl (by decide +kernel) rfl trivial ?_
      exact pm_iret (ty := .boolean) rfl (rfl) (by decide) (by decide) (by decide +kernel) (⟨by unfold lr_in; simp [*, lr_b], rfl⟩)
    · refine pm_bl [(.aload_n 0, 1, 0, 0, 0), (.getfield 28, 3, 1, 5, 0), (.aload_n 0, 1, 0, 0, 0), (.getfield 32, 3, 1, 6, 0)] (pc1 := 33) (lo1 := [some (.ref 40)]) (st1 := [.int (μ.1 40 6), .ref 44]) (μ1 := μ) (vc := True) rfl (by decide +kernel) rfl trivial ?_
      rw [show μ.1 40 6 = nI s from by first | exact h6 | (rw [pm_set_off (by decide)]; exact h6)]
      refine pm_bl [(.caload, 1, 0, 0, 0)] (pc1 := 34) (lo1 := [some (.ref 40)]) (st1 := [.int (μ.1 44 (nI s).toNatClampNeg)]) (μ1 := μ) (vc := vp_in (nI s) 40 ∧ True) rfl (by decide +kernel) rfl ⟨(vp_in_nI (by omega) (by omega)), trivial⟩ ?_
      rw [nI_clamp (n := s) (by omega), ht s hsn]
      refine pm_bl [(.bipush 57, 2, 0, 0, 57)] (pc1 := 36) (lo1 := [some (.ref 40)]) (st1 := [.int 57, .int (t s)]) (μ1 := μ) (vc := True) rfl (by decide +kernel) rfl trivial ?_
      refine pm_icmp_gt (off := 7) 43 (by decide +kernel) (by decide) (fun (h36 : 57 < (t s)) => ?_) (fun (h36 : ¬ (57 < (t s))) => ?_)
      · refine pm_bl [(.iconst 0, 1, 0, 0, 0)] (pc1 := 44) (lo1 := [some (.ref 40)]) (st1 := [.int 0]) (μ1 := μ) (vc := True) rfl (by decide +kernel) rfl trivial ?_
        exact pm_iret (ty := .boolean) rfl (rfl) (by decide) (by decide) (by decide +kernel) (⟨by unfold lr_in; simp [*, lr_b], rfl⟩)
      · refine pm_bl [(.iconst 1, 1, 0, 0, 1), (.goto 4, 3, 44, 0, 0)] (pc1 := 44) (lo1 := [some (.ref 40)]) (st1 := [.int 1]) (μ1 := μ) (vc := True) rfl (by decide +kernel) rfl trivial ?_
        exact pm_iret (ty := .boolean) rfl (rfl) (by decide) (by decide) (by decide +kernel) (⟨by unfold lr_in; simp [*, lr_b], rfl⟩)
  · have e : lr_hr t n s = -1 := by unfold lr_hr; rw [if_neg hsn]
    rw [e]
    refine pm_bl [(.aload_n 0, 1, 0, 0, 0), (.getfield 32, 3, 1, 6, 0)] (pc1 := 4) (lo1 := [some (.ref 40)]) (st1 := [.int (μ.1 40 6)]) (μ1 := μ) (vc := True) rfl (by decide +kernel) rfl trivial ?_
    rw [show μ.1 40 6 = nI s from by first | exact h6 | (rw [pm_set_off (by decide)]; exact h6)]
    refine pm_bl [(.aload_n 0, 1, 0, 0, 0), (.getfield 9, 3, 1, 0, 0)] (pc1 := 8) (lo1 := [some (.ref 40)]) (st1 := [.int (μ.1 40 0), .int (nI s)]) (μ1 := μ) (vc := True) rfl (by decide +kernel) rfl trivial ?_
    rw [h0]
    refine pm_icmp_ge (off := 35) 43 (by decide +kernel) (by decide) (fun (h8 : (nI n) ≤ (nI s)) => ?_) (fun (h9 : ¬ ((nI n) ≤ (nI s))) => absurd (nI_le (by omega) (by omega)) h9)
    refine pm_bl [(.iconst 0, 1, 0, 0, 0)] (pc1 := 44) (lo1 := [some (.ref 40)]) (st1 := [.int 0]) (μ1 := μ) (vc := True) rfl (by decide +kernel) rfl trivial ?_
    exact pm_iret (ty := .boolean) rfl (rfl) (by decide) (by decide) (by decide +kernel) (⟨rfl, rfl⟩)
set_option maxHeartbeats 4000000 in
set_option maxRecDepth 100000 in
theorem c_X1_takeDigit {t : Nat → Int32} {n s : Nat} (μ : pm_Mm) (hT : lr_Ty t n s μ) (hd : lr_in (lr_hr t n s) 48 57 = true) : pm_CT mi_X1_takeDigit [.ref 40] μ (fun v μ2 => v = some (.int (lr_hr t n s - 48)) ∧ μ2 = pm_set μ 40 6 (nI (s + 1))) pm_NX := by
  refine pm_CT_of (lo := [some (.ref 40)]) (by decide +kernel) rfl rfl (by intro v hv; simp at hv; rcases hv with rfl <;> rfl) (Nat.le_of_ble_eq_true rfl) rfl ?_
  obtain ⟨h6, h0, hn, hs, ht⟩ := id hT
  have hsn := lr_hr_dg (Or.inl rfl) hd
  have e : lr_hr t n s = t s := by unfold lr_hr; rw [if_pos hsn]
  refine pm_bl [(.aload_n 0, 1, 0, 0, 0)] (pc1 := 1) (lo1 := [some (.ref 40)]) (st1 := [.ref 40]) (μ1 := μ) (vc := True) rfl (by decide +kernel) rfl trivial ?_
  refine pm_callV2 mi_X1_isDigit (ix := 43) (b := 40) (ci := 1) (kc2 := 0) (ks2 := 0) (As := []) (rest := []) (c_X1_isDigit (s := s) μ hT) cal_X1_isDigit lk1_43 (by decide +kernel) rfl (by decide +kernel) rfl rfl rfl rfl (Nat.le_of_ble_eq_true rfl) (by decide) (by decide) (fun _ _ h9 => h9.elim) ?_
  rintro _ _ ⟨rfl, h9⟩; rw [h9]; clear h9
  show pm_V _ _ _ _ 4 _ [.int (lr_b (lr_in (lr_hr t n s) 48 57))] _
  refine pm_ifb_ne (off := 5) 9 (by decide +kernel) (by decide) (fun (h4 : (lr_in (lr_hr t n s) 48 57) = true) => ?_) (fun (h9 : (lr_in (lr_hr t n s) 48 57) = false) => absurd (hd.symm.trans h9) (by decide))
  refine pm_bl [(.aload_n 0, 1, 0, 0, 0), (.dup, 1, 0, 0, 0), (.getfield 32, 3, 1, 6, 0)] (pc1 := 14) (lo1 := [some (.ref 40)]) (st1 := [.int (μ.1 40 6), .ref 40]) (μ1 := μ) (vc := True) rfl (by decide +kernel) rfl trivial ?_
  rw [h6]
  refine pm_bl [(.iconst 1, 1, 0, 0, 1), (.iadd, 1, 0, 0, 0), (.putfield 32, 3, 1, 6, 0), (.aload_n 0, 1, 0, 0, 0), (.getfield 28, 3, 1, 5, 0), (.aload_n 0, 1, 0, 0, 0), (.getfield 32, 3, 1, 6, 0)] (pc1 := 27) (lo1 := [some (.ref 40)]) (st1 := [.int ((pm_set μ 40 6 ((nI s) + 1)).1 40 6), .ref 44]) (μ1 := pm_set μ 40 6 ((nI s) + 1)) (vc := True) rfl (by decide +kernel) rfl trivial ?_
  rw [show (pm_set μ 40 6 ((nI s) + 1)).1 40 6 = (nI s) + 1 from by rw [pm_set_hit] <;> omega]
  refine pm_bl [(.iconst 1, 1, 0, 0, 1), (.isub, 1, 0, 0, 0)] (pc1 := 29) (lo1 := [some (.ref 40)]) (st1 := [.int (((nI s) + 1) - 1), .ref 44]) (μ1 := pm_set μ 40 6 ((nI s) + 1)) (vc := True) rfl (by decide +kernel) rfl trivial ?_
  rw [nI_1]
  try rw [show (pm_set μ 40 6 (nI (s + 1))).1 40 6 = nI (s + 1) from pm_set_hit]
  try rw [nI_pred]
  refine pm_bl [(.caload, 1, 0, 0, 0)] (pc1 := 30) (lo1 := [some (.ref 40)]) (st1 := [.int ((pm_set μ 40 6 (nI (s + 1))).1 44 (nI s).toNatClampNeg)]) (μ1 := pm_set μ 40 6 (nI (s + 1))) (vc := vp_in (nI s) 40 ∧ True) rfl (by decide +kernel) rfl ⟨(vp_in_nI (by omega) (by omega)), trivial⟩ ?_
  rw [nI_clamp (n := s) (by omega), show (pm_set μ 40 6 (nI (s + 1))).1 44 s = t s from by rw [pm_set_off (by decide)]; exact ht s hsn]
  refine pm_bl [(.bipush 48, 2, 0, 0, 48), (.isub, 1, 0, 0, 0)] (pc1 := 33) (lo1 := [some (.ref 40)]) (st1 := [.int ((t s) - 48)]) (μ1 := pm_set μ 40 6 (nI (s + 1))) (vc := True) rfl (by decide +kernel) rfl trivial ?_
  exact pm_iret (ty := .int) rfl rfl (by decide) (by decide) (by decide +kernel) (⟨by rw [e], rfl⟩)
set_option maxHeartbeats 4000000 in
set_option maxRecDepth 100000 in
theorem c_X1_keepLetter {k : Nat} (p wt r : Int32) (μ : pm_Mm) (hk : μ.1 40 1 = nI k) (hk2 : k < 40) : pm_CT mi_X1_keepLetter [.ref 40, .int p, .int wt, .int r] μ (fun v μ2 => v = none ∧ μ2 = pm_set (pm_set (pm_set (pm_set μ 41 k p) 42 k wt) 43 k r) 40 1 (nI (k + 1))) pm_NX := by
  refine pm_CT_of (lo := [some (.ref 40), some (.int p), some (.int wt), some (.int r)]) (by decide +kernel) rfl rfl (by intro v hv; simp at hv; rcases hv with rfl | rfl | rfl | rfl <;> rfl) (Nat.le_of_ble_eq_true rfl) rfl ?_
  refine pm_bl [(.aload_n 0, 1, 0, 0, 0), (.getfield 15, 3, 1, 1, 0)] (pc1 := 4) (lo1 := [some (.ref 40), some (.int p), some (.int wt), some (.int r)]) (st1 := [.int (μ.1 40 1)]) (μ1 := μ) (vc := True) rfl (by decide +kernel) rfl trivial ?_
  rw [show μ.1 40 1 = nI k from by first | exact hk | (rw [pm_set_off (by decide)]; exact hk) | (rw [pm_set_off (by decide), pm_set_off (by decide)]; exact hk) | (rw [pm_set_off (by decide), pm_set_off (by decide), pm_set_off (by decide)]; exact hk)]
  refine pm_bl [(.bipush 40, 2, 0, 0, 40)] (pc1 := 6) (lo1 := [some (.ref 40), some (.int p), some (.int wt), some (.int r)]) (st1 := [.int 40, .int (nI k)]) (μ1 := μ) (vc := True) rfl (by decide +kernel) rfl trivial ?_
  refine pm_icmp_ge (off := 43) 49 (by decide +kernel) (by decide) (fun (h9 : 40 ≤ (nI k)) => absurd h9 (nI_ge (b := 40) hk2 (by decide))) (fun (h6 : ¬ (40 ≤ (nI k))) => ?_)
  refine pm_bl [(.aload_n 0, 1, 0, 0, 0), (.getfield 18, 3, 1, 2, 0), (.aload_n 0, 1, 0, 0, 0), (.getfield 15, 3, 1, 1, 0)] (pc1 := 17) (lo1 := [some (.ref 40), some (.int p), some (.int wt), some (.int r)]) (st1 := [.int (μ.1 40 1), .ref 41]) (μ1 := μ) (vc := True) rfl (by decide +kernel) rfl trivial ?_
  rw [show μ.1 40 1 = nI k from by first | exact hk | (rw [pm_set_off (by decide)]; exact hk) | (rw [pm_set_off (by decide), pm_set_off (by decide)]; exact hk) | (rw [pm_set_off (by decide), pm_set_off (by decide), pm_set_off (by decide)]; exact hk)]
  refine pm_bl [(.iload_n 1, 1, 1, 0, 0), (.iastore, 1, 0, 0, 0), (.aload_n 0, 1, 0, 0, 0), (.getfield 22, 3, 1, 3, 0), (.aload_n 0, 1, 0, 0, 0), (.getfield 15, 3, 1, 1, 0)] (pc1 := 27) (lo1 := [some (.ref 40), some (.int p), some (.int wt), some (.int r)]) (st1 := [.int ((pm_set μ 41 ((nI k).toNatClampNeg) p).1 40 1), .ref 42]) (μ1 := pm_set μ 41 ((nI k).toNatClampNeg) p) (vc := vp_in (nI k) 40 ∧ True) rfl (by decide +kernel) rfl ⟨(vp_in_nI (by omega) (by omega)), trivial⟩ ?_
  rw [show (pm_set μ 41 ((nI k).toNatClampNeg) p).1 40 1 = μ.1 40 1 from by rw [pm_set_miss] <;> omega]
  rw [show μ.1 40 1 = nI k from by first | exact hk | (rw [pm_set_off (by decide)]; exact hk) | (rw [pm_set_off (by decide), pm_set_off (by decide)]; exact hk) | (rw [pm_set_off (by decide), pm_set_off (by decide), pm_set_off (by decide)]; exact hk)]
  try rw [nI_clamp (n := k) (by omega)]
  refine pm_bl [(.iload_n 2, 1, 2, 0, 0), (.iastore, 1, 0, 0, 0), (.aload_n 0, 1, 0, 0, 0), (.getfield 25, 3, 1, 4, 0), (.aload_n 0, 1, 0, 0, 0), (.getfield 15, 3, 1, 1, 0)] (pc1 := 37) (lo1 := [some (.ref 40), some (.int p), some (.int wt), some (.int r)]) (st1 := [.int ((pm_set (pm_set μ 41 k p) 42 ((nI k).toNatClampNeg) wt).1 40 1), .ref 43]) (μ1 := pm_set (pm_set μ 41 k p) 42 ((nI k).toNatClampNeg) wt) (vc := vp_in (nI k) 40 ∧ True) rfl (by decide +kernel) rfl ⟨(vp_in_nI (by omega) (by omega)), trivial⟩ ?_
  rw [show (pm_set (pm_set μ 41 k p) 42 ((nI k).toNatClampNeg) wt).1 40 1 = μ.1 40 1 from by rw [pm_set_miss, pm_set_miss] <;> omega]
  rw [show μ.1 40 1 = nI k from by first | exact hk | (rw [pm_set_off (by decide)]; exact hk) | (rw [pm_set_off (by decide), pm_set_off (by decide)]; exact hk) | (rw [pm_set_off (by decide), pm_set_off (by decide), pm_set_off (by decide)]; exact hk)]
  try rw [nI_clamp (n := k) (by omega)]
  refine pm_bl [(.iload_n 3, 1, 3, 0, 0), (.iastore, 1, 0, 0, 0), (.aload_n 0, 1, 0, 0, 0), (.dup, 1, 0, 0, 0), (.getfield 15, 3, 1, 1, 0)] (pc1 := 44) (lo1 := [some (.ref 40), some (.int p), some (.int wt), some (.int r)]) (st1 := [.int ((pm_set (pm_set (pm_set μ 41 k p) 42 k wt) 43 ((nI k).toNatClampNeg) r).1 40 1), .ref 40]) (μ1 := pm_set (pm_set (pm_set μ 41 k p) 42 k wt) 43 ((nI k).toNatClampNeg) r) (vc := vp_in (nI k) 40 ∧ True) rfl (by decide +kernel) rfl ⟨(vp_in_nI (by omega) (by omega)), trivial⟩ ?_
  rw [show (pm_set (pm_set (pm_set μ 41 k p) 42 k wt) 43 ((nI k).toNatClampNeg) r).1 40 1 = μ.1 40 1 from by rw [pm_set_miss, pm_set_miss, pm_set_miss] <;> omega]
  rw [show μ.1 40 1 = nI k from by first | exact hk | (rw [pm_set_off (by decide)]; exact hk) | (rw [pm_set_off (by decide), pm_set_off (by decide)]; exact hk) | (rw [pm_set_off (by decide), pm_set_off (by decide), pm_set_off (by decide)]; exact hk)]
  try rw [nI_clamp (n := k) (by omega)]
  refine pm_bl [(.iconst 1, 1, 0, 0, 1), (.iadd, 1, 0, 0, 0), (.putfield 15, 3, 1, 1, 0)] (pc1 := 49) (lo1 := [some (.ref 40), some (.int p), some (.int wt), some (.int r)]) (st1 := []) (μ1 := pm_set (pm_set (pm_set (pm_set μ 41 k p) 42 k wt) 43 k r) 40 1 ((nI k) + 1)) (vc := True) rfl (by decide +kernel) rfl trivial ?_
  exact pm_vret rfl (by decide) (by decide) (by decide +kernel) (⟨rfl, by rw [nI_1]⟩)
set_option maxHeartbeats 4000000 in
set_option maxRecDepth 100000 in
theorem t_rl3_y {t : Nat → Int32} {n k s : Nat} {μ0 : pm_Mm} (q : Option (Int32 × Int32 × Int32) × Nat) (μ : pm_Mm) (hk : μ.1 40 1 = nI k) (hk2 : k < 40) (hT : lr_Ty t n s μ) (hF : lr_Fk μ0 k μ) {pe we : Int32} (h : lr_hr t n s = 114) (hq : q = lr_let3 t n pe we s) : pm_V mi_X1_readLetter (lr_Cq t n μ0 k q, pm_NX, fun _ _ _ => True) 0 0 78 [some (.ref 40), some (.int pe), some (.int we)] [] μ := by
  have hs := hT.2.2.2.1; have hn := hT.2.2.1
  have hsn := lr_hr_lt (t := t) (n := n) (s := s) (by rw [h]; decide)
  refine pm_bl [(.aload_n 0, 1, 0, 0, 0), (.iload_n 1, 1, 1, 0, 0), (.iload_n 2, 1, 2, 0, 0), (.aload_n 0, 1, 0, 0, 0), (.bipush 114, 2, 0, 0, 114)] (pc1 := 84) (lo1 := [some (.ref 40), some (.int pe), some (.int we)]) (st1 := [.int 114, .ref 40, .int we, .int pe, .ref 40]) (μ1 := μ) (vc := True) rfl (by decide +kernel) rfl trivial ?_
  refine pm_callV2 mi_X1_skip (ix := 39) (b := 40) (ci := 1) (kc2 := 0) (ks2 := 0) (As := [.int 114]) (rest := [.int we, .int pe, .ref 40]) (c_X1_skip_y (by decide) μ hT h) cal_X1_skip lk1_39 (by decide +kernel) rfl (by decide +kernel) rfl rfl rfl rfl (Nat.le_of_ble_eq_true rfl) (by decide) (by decide) (fun _ _ h9 => h9.elim) ?_
  rintro _ _ ⟨rfl, h9⟩; rw [h9]; clear h9
  show pm_V _ _ _ _ 87 _ [.int 1, .int we, .int pe, .ref 40] _
  refine pm_if_eq (off := 7) 94 (by decide +kernel) (by decide) (fun h9 => absurd h9 (by decide)) (fun _ => ?_)
  refine pm_bl [(.iconst 1, 1, 0, 0, 1), (.goto 4, 3, 95, 0, 0)] (pc1 := 95) (lo1 := [some (.ref 40), some (.int pe), some (.int we)]) (st1 := [.int 1, .int we, .int pe, .ref 40]) (μ1 := pm_set μ 40 6 (nI (s + 1))) (vc := True) rfl (by decide +kernel) rfl trivial ?_
  refine pm_callV2 mi_X1_keepLetter (ix := 53) (b := 40) (ci := 1) (kc2 := 0) (ks2 := 0) (As := [.int pe, .int we, .int 1]) (rest := []) (c_X1_keepLetter (k := k) pe we 1 (pm_set μ 40 6 (nI (s + 1))) (by rw [pm_set_miss (Or.inr (by decide))]; exact hk) hk2) cal_X1_keepLetter lk1_53 (by decide +kernel) rfl (by decide +kernel) rfl rfl rfl rfl (Nat.le_of_ble_eq_true rfl) (by decide) (by decide) (fun _ _ h9 => h9.elim) ?_
  rintro _ _ ⟨rfl, h9⟩; rw [h9]; clear h9
  show pm_V _ _ _ _ 98 _ [] _
  refine pm_bl [(.iconst 1, 1, 0, 0, 1)] (pc1 := 99) (lo1 := [some (.ref 40), some (.int pe), some (.int we)]) (st1 := [.int 1]) (μ1 := pm_set (pm_set (pm_set (pm_set (pm_set μ 40 6 (nI (s + 1))) 41 k pe) 42 k we) 43 k 1) 40 1 (nI (k + 1))) (vc := True) rfl (by decide +kernel) rfl trivial ?_
  exact pm_iret (ty := .boolean) rfl (rfl) (by decide) (by decide) (by decide +kernel) (by
    rw [hq]; unfold lr_let3 lr_Cq
    rw [if_pos h, if_pos h]
    refine ⟨((((hT.set (s2 := s + 1) (by omega)).tl (Or.inl ⟨by omega, by omega⟩)).tl (Or.inl ⟨by omega, by omega⟩)).tl (Or.inl ⟨by omega, by omega⟩)).tl (Or.inr ⟨rfl, rfl⟩), ((((hF.st (Or.inr ⟨rfl, Or.inr rfl⟩)).st (Or.inl ⟨by omega, by omega, Nat.le_refl _⟩)).st (Or.inl ⟨by omega, by omega, Nat.le_refl _⟩)).st (Or.inl ⟨by omega, by omega, Nat.le_refl _⟩)).st (Or.inr ⟨rfl, Or.inl rfl⟩), fun e => absurd e (by simp), fun x y z e => ?_⟩
    obtain ⟨rfl, rfl, rfl⟩ : pe = x ∧ we = y ∧ (1 : Int32) = z := by simpa using e
    refine ⟨rfl, by rw [pm_set_hit], ?_, ?_, ?_⟩
    · rw [pm_set_off (by decide), pm_set_off (by decide), pm_set_off (by decide), pm_set_hit]
    · rw [pm_set_off (by decide), pm_set_off (by decide), pm_set_hit]
    · rw [pm_set_off (by decide), pm_set_hit])
set_option maxHeartbeats 4000000 in
set_option maxRecDepth 100000 in
theorem t_rl3_n {t : Nat → Int32} {n k s : Nat} {μ0 : pm_Mm} (q : Option (Int32 × Int32 × Int32) × Nat) (μ : pm_Mm) (hk : μ.1 40 1 = nI k) (hk2 : k < 40) (hT : lr_Ty t n s μ) (hF : lr_Fk μ0 k μ) {pe we : Int32} (h : ¬ lr_hr t n s = 114) (hq : q = lr_let3 t n pe we s) : pm_V mi_X1_readLetter (lr_Cq t n μ0 k q, pm_NX, fun _ _ _ => True) 0 0 78 [some (.ref 40), some (.int pe), some (.int we)] [] μ := by
  have hs := hT.2.2.2.1; have hn := hT.2.2.1
  refine pm_bl [(.aload_n 0, 1, 0, 0, 0), (.iload_n 1, 1, 1, 0, 0), (.iload_n 2, 1, 2, 0, 0), (.aload_n 0, 1, 0, 0, 0), (.bipush 114, 2, 0, 0, 114)] (pc1 := 84) (lo1 := [some (.ref 40), some (.int pe), some (.int we)]) (st1 := [.int 114, .ref 40, .int we, .int pe, .ref 40]) (μ1 := μ) (vc := True) rfl (by decide +kernel) rfl trivial ?_
  refine pm_callV2 mi_X1_skip (ix := 39) (b := 40) (ci := 1) (kc2 := 0) (ks2 := 0) (As := [.int 114]) (rest := [.int we, .int pe, .ref 40]) (c_X1_skip_n (by decide) μ hT h) cal_X1_skip lk1_39 (by decide +kernel) rfl (by decide +kernel) rfl rfl rfl rfl (Nat.le_of_ble_eq_true rfl) (by decide) (by decide) (fun _ _ h9 => h9.elim) ?_
  rintro _ _ ⟨rfl, h9⟩; rw [h9]; clear h9
  show pm_V _ _ _ _ 87 _ [.int 0, .int we, .int pe, .ref 40] _
  refine pm_if_eq (off := 7) 94 (by decide +kernel) (by decide) (fun _ => ?_) (fun h9 => absurd h9 (by decide))
  refine pm_bl [(.iconst 0, 1, 0, 0, 0)] (pc1 := 95) (lo1 := [some (.ref 40), some (.int pe), some (.int we)]) (st1 := [.int 0, .int we, .int pe, .ref 40]) (μ1 := μ) (vc := True) rfl (by decide +kernel) rfl trivial ?_
  refine pm_callV2 mi_X1_keepLetter (ix := 53) (b := 40) (ci := 1) (kc2 := 0) (ks2 := 0) (As := [.int pe, .int we, .int 0]) (rest := []) (c_X1_keepLetter (k := k) pe we 0 μ hk hk2) cal_X1_keepLetter lk1_53 (by decide +kernel) rfl (by decide +kernel) rfl rfl rfl rfl (Nat.le_of_ble_eq_true rfl) (by decide) (by decide) (fun _ _ h9 => h9.elim) ?_
  rintro _ _ ⟨rfl, h9⟩; rw [h9]; clear h9
  show pm_V _ _ _ _ 98 _ [] _
  refine pm_bl [(.iconst 1, 1, 0, 0, 1)] (pc1 := 99) (lo1 := [some (.ref 40), some (.int pe), some (.int we)]) (st1 := [.int 1]) (μ1 := pm_set (pm_set (pm_set (pm_set (μ) 41 k pe) 42 k we) 43 k 0) 40 1 (nI (k + 1))) (vc := True) rfl (by decide +kernel) rfl trivial ?_
  exact pm_iret (ty := .boolean) rfl (rfl) (by decide) (by decide) (by decide +kernel) (by
    rw [hq]; unfold lr_let3 lr_Cq
    rw [if_neg h, if_neg h]
    refine ⟨(((hT.tl (Or.inl ⟨by omega, by omega⟩)).tl (Or.inl ⟨by omega, by omega⟩)).tl (Or.inl ⟨by omega, by omega⟩)).tl (Or.inr ⟨rfl, rfl⟩), (((hF.st (Or.inl ⟨by omega, by omega, Nat.le_refl _⟩)).st (Or.inl ⟨by omega, by omega, Nat.le_refl _⟩)).st (Or.inl ⟨by omega, by omega, Nat.le_refl _⟩)).st (Or.inr ⟨rfl, Or.inl rfl⟩), fun e => absurd e (by simp), fun x y z e => ?_⟩
    obtain ⟨rfl, rfl, rfl⟩ : pe = x ∧ we = y ∧ (0 : Int32) = z := by simpa using e
    refine ⟨rfl, by rw [pm_set_hit], ?_, ?_, ?_⟩
    · rw [pm_set_off (by decide), pm_set_off (by decide), pm_set_off (by decide), pm_set_hit]
    · rw [pm_set_off (by decide), pm_set_off (by decide), pm_set_hit]
    · rw [pm_set_off (by decide), pm_set_hit])
set_option maxHeartbeats 4000000 in
set_option maxRecDepth 100000 in
theorem t_rl3 {t : Nat → Int32} {n k s : Nat} {μ0 : pm_Mm} (q : Option (Int32 × Int32 × Int32) × Nat) (μ : pm_Mm) (hk : μ.1 40 1 = nI k) (hk2 : k < 40) (hT : lr_Ty t n s μ) (hF : lr_Fk μ0 k μ) {pe we : Int32} (hq : q = lr_let3 t n pe we s) : pm_V mi_X1_readLetter (lr_Cq t n μ0 k q, pm_NX, fun _ _ _ => True) 0 0 78 [some (.ref 40), some (.int pe), some (.int we)] [] μ := by
  by_cases h : lr_hr t n s = 114
  · exact t_rl3_y q μ hk hk2 hT hF h hq
  · exact t_rl3_n q μ hk hk2 hT hF h hq
set_option maxHeartbeats 4000000 in
set_option maxRecDepth 100000 in
theorem t_rl2_n {t : Nat → Int32} {n k s : Nat} {μ0 : pm_Mm} (q : Option (Int32 × Int32 × Int32) × Nat) (μ : pm_Mm) (hk : μ.1 40 1 = nI k) (hk2 : k < 40) (hT : lr_Ty t n s μ) (hF : lr_Fk μ0 k μ) {pe : Int32} (h : ¬ lr_hr t n s = 119) (hq : q = lr_let2 t n pe s) : pm_V mi_X1_readLetter (lr_Cq t n μ0 k q, pm_NX, fun _ _ _ => True) 0 0 44 [some (.ref 40), some (.int pe), none] [] μ := by
  refine pm_bl [(.iconst 1, 1, 0, 0, 1), (.istore_n 2, 1, 2, 0, 0), (.aload_n 0, 1, 0, 0, 0), (.bipush 119, 2, 0, 0, 119)] (pc1 := 49) (lo1 := [some (.ref 40), some (.int pe), some (.int 1)]) (st1 := [.int 119, .ref 40]) (μ1 := μ) (vc := True) rfl (by decide +kernel) rfl trivial ?_
  refine pm_callV2 mi_X1_skip (ix := 39) (b := 40) (ci := 1) (kc2 := 0) (ks2 := 0) (As := [.int 119]) (rest := []) (c_X1_skip_n (by decide) μ hT h) cal_X1_skip lk1_39 (by decide +kernel) rfl (by decide +kernel) rfl rfl rfl rfl (Nat.le_of_ble_eq_true rfl) (by decide) (by decide) (fun _ _ h9 => h9.elim) ?_
  rintro _ _ ⟨rfl, h9⟩; rw [h9]; clear h9
  show pm_V _ _ _ _ 52 _ [.int 0] _
  refine pm_if_eq (off := 26) 78 (by decide +kernel) (by decide) (fun _ => ?_) (fun h9 => absurd h9 (by decide))
  exact t_rl3 q μ hk hk2 hT hF (by rw [hq]; unfold lr_let2; rw [if_neg h])
set_option maxHeartbeats 4000000 in
set_option maxRecDepth 100000 in
theorem t_rl2_y {t : Nat → Int32} {n k s : Nat} {μ0 : pm_Mm} (q : Option (Int32 × Int32 × Int32) × Nat) (μ : pm_Mm) (hk : μ.1 40 1 = nI k) (hk2 : k < 40) (hT : lr_Ty t n s μ) (hF : lr_Fk μ0 k μ) {pe : Int32} (h : lr_hr t n s = 119) (hd : lr_in (lr_hr t n (s + 1)) 49 57 = true) (hq : q = lr_let2 t n pe s) : pm_V mi_X1_readLetter (lr_Cq t n μ0 k q, pm_NX, fun _ _ _ => True) 0 0 44 [some (.ref 40), some (.int pe), none] [] μ := by
  have hs := hT.2.2.2.1; have hn := hT.2.2.1
  have hsn := lr_hr_lt (t := t) (n := n) (s := s) (by rw [h]; decide)
  have hT1 := hT.set (s2 := s + 1) (by omega)
  have hk1 : (pm_set μ 40 6 (nI (s + 1))).1 40 1 = nI k := by rw [pm_set_miss (Or.inr (by decide))]; exact hk
  have hF1 : lr_Fk μ0 k (pm_set μ 40 6 (nI (s + 1))) := hF.st (Or.inr ⟨rfl, Or.inr rfl⟩)
  obtain ⟨hd1, hd2⟩ := (lr_in49 _).mp hd
  have hsd := lr_hr_dg (Or.inl rfl) hd1
  refine pm_bl [(.iconst 1, 1, 0, 0, 1), (.istore_n 2, 1, 2, 0, 0), (.aload_n 0, 1, 0, 0, 0), (.bipush 119, 2, 0, 0, 119)] (pc1 := 49) (lo1 := [some (.ref 40), some (.int pe), some (.int 1)]) (st1 := [.int 119, .ref 40]) (μ1 := μ) (vc := True) rfl (by decide +kernel) rfl trivial ?_
  refine pm_callV2 mi_X1_skip (ix := 39) (b := 40) (ci := 1) (kc2 := 0) (ks2 := 0) (As := [.int 119]) (rest := []) (c_X1_skip_y (by decide) μ hT h) cal_X1_skip lk1_39 (by decide +kernel) rfl (by decide +kernel) rfl rfl rfl rfl (Nat.le_of_ble_eq_true rfl) (by decide) (by decide) (fun _ _ h9 => h9.elim) ?_
  rintro _ _ ⟨rfl, h9⟩; rw [h9]; clear h9
  show pm_V _ _ _ _ 52 _ [.int 1] _
  refine pm_if_eq (off := 26) 78 (by decide +kernel) (by decide) (fun h9 => absurd h9 (by decide)) (fun _ => ?_)
  refine pm_bl [(.aload_n 0, 1, 0, 0, 0)] (pc1 := 56) (lo1 := [some (.ref 40), some (.int pe), some (.int 1)]) (st1 := [.ref 40]) (μ1 := pm_set μ 40 6 (nI (s + 1))) (vc := True) rfl (by decide +kernel) rfl trivial ?_
  refine pm_callV2 mi_X1_isDigit (ix := 43) (b := 40) (ci := 1) (kc2 := 0) (ks2 := 0) (As := []) (rest := []) (c_X1_isDigit (s := s + 1) (pm_set μ 40 6 (nI (s + 1))) hT1) cal_X1_isDigit lk1_43 (by decide +kernel) rfl (by decide +kernel) rfl rfl rfl rfl (Nat.le_of_ble_eq_true rfl) (by decide) (by decide) (fun _ _ h9 => h9.elim) ?_
  rintro _ _ ⟨rfl, h9⟩; rw [h9, hd1]; clear h9
  show pm_V _ _ _ _ 59 _ [.int 1] _
  refine pm_if_eq (off := 12) 71 (by decide +kernel) (by decide) (fun h9 => absurd h9 (by decide)) (fun _ => ?_)
  refine pm_bl [(.aload_n 0, 1, 0, 0, 0), (.bipush 48, 2, 0, 0, 48)] (pc1 := 65) (lo1 := [some (.ref 40), some (.int pe), some (.int 1)]) (st1 := [.int 48, .ref 40]) (μ1 := pm_set μ 40 6 (nI (s + 1))) (vc := True) rfl (by decide +kernel) rfl trivial ?_
  refine pm_callV2 mi_X1_isNext (ix := 50) (b := 40) (ci := 1) (kc2 := 0) (ks2 := 0) (As := [.int 48]) (rest := []) (c_X1_isNext_n (s := s + 1) (by decide) (pm_set μ 40 6 (nI (s + 1))) hT1 hd2) cal_X1_isNext lk1_50 (by decide +kernel) rfl (by decide +kernel) rfl rfl rfl rfl (Nat.le_of_ble_eq_true rfl) (by decide) (by decide) (fun _ _ h9 => h9.elim) ?_
  rintro _ _ ⟨rfl, h9⟩; rw [h9]; clear h9
  show pm_V _ _ _ _ 68 _ [.int 0] _
  refine pm_if_eq (off := 5) 73 (by decide +kernel) (by decide) (fun _ => ?_) (fun h9 => absurd h9 (by decide))
  refine pm_bl [(.aload_n 0, 1, 0, 0, 0)] (pc1 := 74) (lo1 := [some (.ref 40), some (.int pe), some (.int 1)]) (st1 := [.ref 40]) (μ1 := pm_set μ 40 6 (nI (s + 1))) (vc := True) rfl (by decide +kernel) rfl trivial ?_
  refine pm_callV2 mi_X1_takeDigit (ix := 46) (b := 40) (ci := 1) (kc2 := 0) (ks2 := 0) (As := []) (rest := []) (c_X1_takeDigit (s := s + 1) (pm_set μ 40 6 (nI (s + 1))) hT1 hd1) cal_X1_takeDigit lk1_46 (by decide +kernel) rfl (by decide +kernel) rfl rfl rfl rfl (Nat.le_of_ble_eq_true rfl) (by decide) (by decide) (fun _ _ h9 => h9.elim) ?_
  rintro _ _ ⟨rfl, h9⟩; rw [h9]; clear h9
  show pm_V _ _ _ _ 77 _ [.int (lr_hr t n (s + 1) - 48)] _
  refine pm_bl [(.istore_n 2, 1, 2, 0, 0)] (pc1 := 78) (lo1 := [some (.ref 40), some (.int pe), some (.int (lr_hr t n (s + 1) - 48))]) (st1 := []) (μ1 := pm_set (pm_set μ 40 6 (nI (s + 1))) 40 6 (nI (s + 1 + 1))) (vc := True) rfl (by decide +kernel) rfl trivial ?_
  exact t_rl3 (s := s + 2) q _ (by rw [pm_set_miss (Or.inr (by decide))]; exact hk1) hk2 (hT1.set (s2 := s + 2) (by omega)) (hF1.st (Or.inr ⟨rfl, Or.inr rfl⟩)) (by rw [hq]; unfold lr_let2; rw [if_pos h, if_pos hd])
set_option maxHeartbeats 4000000 in
set_option maxRecDepth 100000 in
theorem t_rl2_f {t : Nat → Int32} {n k s : Nat} {μ0 : pm_Mm} (q : Option (Int32 × Int32 × Int32) × Nat) (μ : pm_Mm) (hk : μ.1 40 1 = nI k) (hk2 : k < 40) (hT : lr_Ty t n s μ) (hF : lr_Fk μ0 k μ) {pe : Int32} (h : lr_hr t n s = 119) (hd : lr_in (lr_hr t n (s + 1)) 49 57 = false) (hq : q = lr_let2 t n pe s) : pm_V mi_X1_readLetter (lr_Cq t n μ0 k q, pm_NX, fun _ _ _ => True) 0 0 44 [some (.ref 40), some (.int pe), none] [] μ := by
  have hs := hT.2.2.2.1; have hn := hT.2.2.1
  have hsn := lr_hr_lt (t := t) (n := n) (s := s) (by rw [h]; decide)
  have hT1 := hT.set (s2 := s + 1) (by omega)
  have hk1 : (pm_set μ 40 6 (nI (s + 1))).1 40 1 = nI k := by rw [pm_set_miss (Or.inr (by decide))]; exact hk
  have hF1 : lr_Fk μ0 k (pm_set μ 40 6 (nI (s + 1))) := hF.st (Or.inr ⟨rfl, Or.inr rfl⟩)
  have fin : lr_Cq t n μ0 k q (some (.int 0)) (pm_set μ 40 6 (nI (s + 1))) := by
    rw [hq]; unfold lr_let2 lr_Cq; rw [if_pos h, if_neg (by rw [hd]; decide)]
    exact ⟨hT1, hF1, fun _ => ⟨rfl, hk1⟩, fun _ _ _ e => absurd e (by simp)⟩
  by_cases hd1 : lr_in (lr_hr t n (s + 1)) 48 57 = true
  · have h48 : lr_hr t n (s + 1) = 48 := Classical.byContradiction fun c => by rw [(lr_in49 _).mpr ⟨hd1, c⟩] at hd; exact absurd hd (by decide)
    refine pm_bl [(.iconst 1, 1, 0, 0, 1), (.istore_n 2, 1, 2, 0, 0), (.aload_n 0, 1, 0, 0, 0), (.bipush 119, 2, 0, 0, 119)] (pc1 := 49) (lo1 := [some (.ref 40), some (.int pe), some (.int 1)]) (st1 := [.int 119, .ref 40]) (μ1 := μ) (vc := True) rfl (by decide +kernel) rfl trivial ?_
    refine pm_callV2 mi_X1_skip (ix := 39) (b := 40) (ci := 1) (kc2 := 0) (ks2 := 0) (As := [.int 119]) (rest := []) (c_X1_skip_y (by decide) μ hT h) cal_X1_skip lk1_39 (by decide +kernel) rfl (by decide +kernel) rfl rfl rfl rfl (Nat.le_of_ble_eq_true rfl) (by decide) (by decide) (fun _ _ h9 => h9.elim) ?_
    rintro _ _ ⟨rfl, h9⟩; rw [h9]; clear h9
    show pm_V _ _ _ _ 52 _ [.int 1] _
    refine pm_if_eq (off := 26) 78 (by decide +kernel) (by decide) (fun h9 => absurd h9 (by decide)) (fun _ => ?_)
    refine pm_bl [(.aload_n 0, 1, 0, 0, 0)] (pc1 := 56) (lo1 := [some (.ref 40), some (.int pe), some (.int 1)]) (st1 := [.ref 40]) (μ1 := pm_set μ 40 6 (nI (s + 1))) (vc := True) rfl (by decide +kernel) rfl trivial ?_
    refine pm_callV2 mi_X1_isDigit (ix := 43) (b := 40) (ci := 1) (kc2 := 0) (ks2 := 0) (As := []) (rest := []) (c_X1_isDigit (s := s + 1) (pm_set μ 40 6 (nI (s + 1))) hT1) cal_X1_isDigit lk1_43 (by decide +kernel) rfl (by decide +kernel) rfl rfl rfl rfl (Nat.le_of_ble_eq_true rfl) (by decide) (by decide) (fun _ _ h9 => h9.elim) ?_
    rintro _ _ ⟨rfl, h9⟩; rw [h9, hd1]; clear h9
    show pm_V _ _ _ _ 59 _ [.int 1] _
    refine pm_if_eq (off := 12) 71 (by decide +kernel) (by decide) (fun h9 => absurd h9 (by decide)) (fun _ => ?_)
    refine pm_bl [(.aload_n 0, 1, 0, 0, 0), (.bipush 48, 2, 0, 0, 48)] (pc1 := 65) (lo1 := [some (.ref 40), some (.int pe), some (.int 1)]) (st1 := [.int 48, .ref 40]) (μ1 := pm_set μ 40 6 (nI (s + 1))) (vc := True) rfl (by decide +kernel) rfl trivial ?_
    refine pm_callV2 mi_X1_isNext (ix := 50) (b := 40) (ci := 1) (kc2 := 0) (ks2 := 0) (As := [.int 48]) (rest := []) (c_X1_isNext_y (s := s + 1) (by decide) (pm_set μ 40 6 (nI (s + 1))) hT1 h48) cal_X1_isNext lk1_50 (by decide +kernel) rfl (by decide +kernel) rfl rfl rfl rfl (Nat.le_of_ble_eq_true rfl) (by decide) (by decide) (fun _ _ h9 => h9.elim) ?_
    rintro _ _ ⟨rfl, h9⟩; rw [h9]; clear h9
    show pm_V _ _ _ _ 68 _ [.int 1] _
    refine pm_if_eq (off := 5) 73 (by decide +kernel) (by decide) (fun h9 => absurd h9 (by decide)) (fun _ => ?_)
    refine pm_bl [(.iconst 0, 1, 0, 0, 0)] (pc1 := 72) (lo1 := [some (.ref 40), some (.int pe), some (.int 1)]) (st1 := [.int 0]) (μ1 := pm_set μ 40 6 (nI (s + 1))) (vc := True) rfl (by decide +kernel) rfl trivial ?_
    exact pm_iret (ty := .boolean) rfl (rfl) (by decide) (by decide) (by decide +kernel) fin
  · rw [Bool.not_eq_true] at hd1
    refine pm_bl [(.iconst 1, 1, 0, 0, 1), (.istore_n 2, 1, 2, 0, 0), (.aload_n 0, 1, 0, 0, 0), (.bipush 119, 2, 0, 0, 119)] (pc1 := 49) (lo1 := [some (.ref 40), some (.int pe), some (.int 1)]) (st1 := [.int 119, .ref 40]) (μ1 := μ) (vc := True) rfl (by decide +kernel) rfl trivial ?_
    refine pm_callV2 mi_X1_skip (ix := 39) (b := 40) (ci := 1) (kc2 := 0) (ks2 := 0) (As := [.int 119]) (rest := []) (c_X1_skip_y (by decide) μ hT h) cal_X1_skip lk1_39 (by decide +kernel) rfl (by decide +kernel) rfl rfl rfl rfl (Nat.le_of_ble_eq_true rfl) (by decide) (by decide) (fun _ _ h9 => h9.elim) ?_
    rintro _ _ ⟨rfl, h9⟩; rw [h9]; clear h9
    show pm_V _ _ _ _ 52 _ [.int 1] _
    refine pm_if_eq (off := 26) 78 (by decide +kernel) (by decide) (fun h9 => absurd h9 (by decide)) (fun _ => ?_)
    refine pm_bl [(.aload_n 0, 1, 0, 0, 0)] (pc1 := 56) (lo1 := [some (.ref 40), some (.int pe), some (.int 1)]) (st1 := [.ref 40]) (μ1 := pm_set μ 40 6 (nI (s + 1))) (vc := True) rfl (by decide +kernel) rfl trivial ?_
    refine pm_callV2 mi_X1_isDigit (ix := 43) (b := 40) (ci := 1) (kc2 := 0) (ks2 := 0) (As := []) (rest := []) (c_X1_isDigit (s := s + 1) (pm_set μ 40 6 (nI (s + 1))) hT1) cal_X1_isDigit lk1_43 (by decide +kernel) rfl (by decide +kernel) rfl rfl rfl rfl (Nat.le_of_ble_eq_true rfl) (by decide) (by decide) (fun _ _ h9 => h9.elim) ?_
    rintro _ _ ⟨rfl, h9⟩; rw [h9, hd1]; clear h9
    show pm_V _ _ _ _ 59 _ [.int 0] _
    refine pm_if_eq (off := 12) 71 (by decide +kernel) (by decide) (fun _ => ?_) (fun h9 => absurd h9 (by decide))
    refine pm_bl [(.iconst 0, 1, 0, 0, 0)] (pc1 := 72) (lo1 := [some (.ref 40), some (.int pe), some (.int 1)]) (st1 := [.int 0]) (μ1 := pm_set μ 40 6 (nI (s + 1))) (vc := True) rfl (by decide +kernel) rfl trivial ?_
    exact pm_iret (ty := .boolean) rfl (rfl) (by decide) (by decide) (by decide +kernel) fin
set_option maxHeartbeats 4000000 in
set_option maxRecDepth 100000 in
theorem t_rl2 {t : Nat → Int32} {n k s : Nat} {μ0 : pm_Mm} (q : Option (Int32 × Int32 × Int32) × Nat) (μ : pm_Mm) (hk : μ.1 40 1 = nI k) (hk2 : k < 40) (hT : lr_Ty t n s μ) (hF : lr_Fk μ0 k μ) {pe : Int32} (hq : q = lr_let2 t n pe s) : pm_V mi_X1_readLetter (lr_Cq t n μ0 k q, pm_NX, fun _ _ _ => True) 0 0 44 [some (.ref 40), some (.int pe), none] [] μ := by
  by_cases h : lr_hr t n s = 119
  · by_cases hd : lr_in (lr_hr t n (s + 1)) 49 57 = true
    · exact t_rl2_y q μ hk hk2 hT hF h hd hq
    · exact t_rl2_f q μ hk hk2 hT hF h (by rw [Bool.not_eq_true] at hd; exact hd) hq
  · exact t_rl2_n q μ hk hk2 hT hF h hq
