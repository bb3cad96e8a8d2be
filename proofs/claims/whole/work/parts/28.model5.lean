/-! the model: copies, and the small ones -/
/-- n numbers of f from i, laid into h at j -/
def lr_cpy (f h : Nat → Int32) (i j n : Nat) : Nat → Int32 := fun x => if j ≤ x ∧ x < j + n then f (i + (x - j)) else h x
theorem lr_cpy_0 (f h : Nat → Int32) (i j : Nat) : lr_cpy f h i j 0 = h := by
  funext x; unfold lr_cpy; rw [if_neg (by omega)]
theorem pm_row_self (μ : pm_Mm) (r : Nat) : pm_row μ r (μ.1 r) = μ := by
  refine Prod.ext (funext fun i => ?_) rfl
  show (if i = r then μ.1 r else μ.1 i) = μ.1 i
  by_cases h : i = r
  · rw [if_pos h, h]
  · rw [if_neg h]
theorem lr_cpy_s {μ : pm_Mm} {A B i j n : Nat} (h : A ≠ B) : pm_set (pm_row μ B (lr_cpy (μ.1 A) (μ.1 B) i j n)) B (j + n) ((pm_row μ B (lr_cpy (μ.1 A) (μ.1 B) i j n)).1 A (i + n)) = pm_row μ B (lr_cpy (μ.1 A) (μ.1 B) i j (n + 1)) := by
  rw [pm_row_off h]
  refine Prod.ext (funext fun r => funext fun x => ?_) rfl
  show (if r = B ∧ x = j + n then μ.1 A (i + n) else (if r = B then lr_cpy (μ.1 A) (μ.1 B) i j n else μ.1 r) x) = (if r = B then lr_cpy (μ.1 A) (μ.1 B) i j (n + 1) else μ.1 r) x
  by_cases hr : r = B
  · rw [if_pos hr, if_pos hr]
    by_cases hx : x = j + n
    · rw [if_pos ⟨hr, hx⟩]; unfold lr_cpy; rw [if_pos (by omega), hx, show i + (j + n - j) = i + n from by omega]
    · rw [if_neg (fun e => hx e.2)]; unfold lr_cpy
      by_cases h1 : j ≤ x ∧ x < j + n
      · rw [if_pos h1, if_pos (by omega)]
      · rw [if_neg h1, if_neg (by omega)]
  · rw [if_neg (fun e => hr e.1), if_neg hr, if_neg hr]
set_option maxHeartbeats 4000000 in
set_option maxRecDepth 100000 in
theorem l_X10_copies_48_49 {i j : Nat} (μ : pm_Mm) (hi : i + 620 ≤ 620) (hj : j + 620 ≤ 620) : ∀ n k : Nat, k + n = 620 → ∀ μ1 : pm_Mm, μ1 = pm_row μ 49 (lr_cpy (μ.1 48) (μ.1 49) i j k) → pm_V mi_X10_copies ((fun v μ2 => v = none ∧ μ2 = pm_row μ 49 (lr_cpy (μ.1 48) (μ.1 49) i j 620)), pm_NX, fun _ _ _ => True) 0 0 3 [some (.ref 48), some (.int (nI i)), some (.ref 49), some (.int (nI j)), some (.int (nI k))] [] μ1 := by
  intro n
  induction n with
  | zero =>
    intro k hk μ1 hm
    refine pm_bl [(.iload 4, 2, 4, 0, 0), (.sipush 620, 3, 0, 0, 620)] (pc1 := 8) (lo1 := [some (.ref 48), some (.int (nI i)), some (.ref 49), some (.int (nI j)), some (.int (nI k))]) (st1 := [.int 620, .int (nI k)]) (μ1 := μ1) (vc := True) rfl (by decide +kernel) rfl trivial ?_
    refine pm_icmp_ge (off := 21) 29 (by decide +kernel) (by decide) (fun (h8 : 620 ≤ (nI k)) => ?_) (fun (h9 : ¬ (620 ≤ (nI k))) => absurd (nI_le (a := 620) (by omega) (by omega)) h9)
    exact pm_vret rfl (by decide) (by decide) (by decide +kernel) (⟨rfl, by rw [hm, show k = 620 from by omega]⟩)
  | succ n ih =>
    intro k hk μ1 hm
    refine pm_bl [(.iload 4, 2, 4, 0, 0), (.sipush 620, 3, 0, 0, 620)] (pc1 := 8) (lo1 := [some (.ref 48), some (.int (nI i)), some (.ref 49), some (.int (nI j)), some (.int (nI k))]) (st1 := [.int 620, .int (nI k)]) (μ1 := μ1) (vc := True) rfl (by decide +kernel) rfl trivial ?_
    refine pm_icmp_ge (off := 21) 29 (by decide +kernel) (by decide) (fun (h9 : 620 ≤ (nI k)) => absurd h9 (nI_ge (b := 620) (by omega) (by omega))) (fun (h8 : ¬ (620 ≤ (nI k))) => ?_)
    refine pm_bl [(.aload_n 2, 1, 2, 0, 0), (.iload_n 3, 1, 3, 0, 0), (.iload 4, 2, 4, 0, 0), (.iadd, 1, 0, 0, 0), (.aload_n 0, 1, 0, 0, 0), (.iload_n 1, 1, 1, 0, 0), (.iload 4, 2, 4, 0, 0), (.iadd, 1, 0, 0, 0)] (pc1 := 21) (lo1 := [some (.ref 48), some (.int (nI i)), some (.ref 49), some (.int (nI j)), some (.int (nI k))]) (st1 := [.int ((nI i) + (nI k)), .ref 48, .int ((nI j) + (nI k)), .ref 49]) (μ1 := μ1) (vc := True) rfl (by decide +kernel) rfl trivial ?_
    rw [(show ((nI i) + (nI k) : Int32) = nI ((i) + (k)) from by simp only [nI, Int32.ofNat_add, Int32.ofNat_mul]).trans (congrArg nI (show (i) + (k) = i + k from by omega))]
    refine pm_bl [(.iaload, 1, 0, 0, 0)] (pc1 := 22) (lo1 := [some (.ref 48), some (.int (nI i)), some (.ref 49), some (.int (nI j)), some (.int (nI k))]) (st1 := [.int (μ1.1 48 (nI (i + k)).toNatClampNeg), .int ((nI j) + (nI k)), .ref 49]) (μ1 := μ1) (vc := vp_in (nI (i + k)) 620 ∧ True) rfl (by decide +kernel) rfl ⟨(vp_in_nI (by omega) (by omega)), trivial⟩ ?_
    rw [(show ((nI j) + (nI k) : Int32) = nI ((j) + (k)) from by simp only [nI, Int32.ofNat_add, Int32.ofNat_mul]).trans (congrArg nI (show (j) + (k) = j + k from by omega))]
    refine pm_bl [(.iastore, 1, 0, 0, 0), (.iinc 4 1, 3, 4, 0, 1), (.goto (-23), 3, 3, 0, 0)] (pc1 := 3) (lo1 := [some (.ref 48), some (.int (nI i)), some (.ref 49), some (.int (nI j)), some (.int ((nI k) + 1))]) (st1 := []) (μ1 := pm_set μ1 49 ((nI (j + k)).toNatClampNeg) (μ1.1 48 (nI (i + k)).toNatClampNeg)) (vc := vp_in (nI (j + k)) 620 ∧ True) rfl (by decide +kernel) rfl ⟨(vp_in_nI (by omega) (by omega)), trivial⟩ ?_
    try rw [nI_clamp (n := (j + k)) (by omega)]
    rw [nI_1]; refine ih (k + 1) (by omega) _ ?_
    try rw [nI_clamp (n := i + k) (by omega)]
    try rw [nI_clamp (n := j + k) (by omega)]
    rw [hm]
    exact lr_cpy_s (by decide)
set_option maxHeartbeats 4000000 in
set_option maxRecDepth 100000 in
theorem c_X10_copies_48_49 {i j : Nat} (μ : pm_Mm) (hi : i + 620 ≤ 620) (hj : j + 620 ≤ 620) : pm_CT mi_X10_copies [.ref 48, .int (nI i), .ref 49, .int (nI j)] μ (fun v μ2 => v = none ∧ μ2 = pm_row μ 49 (lr_cpy (μ.1 48) (μ.1 49) i j 620)) pm_NX := by
  refine pm_CT_of (lo := [some (.ref 48), some (.int (nI i)), some (.ref 49), some (.int (nI j)), none]) (by decide +kernel) rfl rfl (by intro v hv; simp at hv; rcases hv with rfl | rfl | rfl | rfl <;> rfl) (Nat.le_of_ble_eq_true rfl) rfl ?_
  refine pm_bl [(.iconst 0, 1, 0, 0, 0), (.istore 4, 2, 4, 0, 0)] (pc1 := 3) (lo1 := [some (.ref 48), some (.int (nI i)), some (.ref 49), some (.int (nI j)), some (.int 0)]) (st1 := []) (μ1 := μ) (vc := True) rfl (by decide +kernel) rfl trivial ?_
  exact l_X10_copies_48_49 μ hi hj 620 0 rfl μ (by rw [lr_cpy_0, pm_row_self])
set_option maxHeartbeats 4000000 in
set_option maxRecDepth 100000 in
theorem l_X10_copies_49_48 {i j : Nat} (μ : pm_Mm) (hi : i + 620 ≤ 620) (hj : j + 620 ≤ 620) : ∀ n k : Nat, k + n = 620 → ∀ μ1 : pm_Mm, μ1 = pm_row μ 48 (lr_cpy (μ.1 49) (μ.1 48) i j k) → pm_V mi_X10_copies ((fun v μ2 => v = none ∧ μ2 = pm_row μ 48 (lr_cpy (μ.1 49) (μ.1 48) i j 620)), pm_NX, fun _ _ _ => True) 0 0 3 [some (.ref 49), some (.int (nI i)), some (.ref 48), some (.int (nI j)), some (.int (nI k))] [] μ1 := by
  intro n
  induction n with
  | zero =>
    intro k hk μ1 hm
    refine pm_bl [(.iload 4, 2, 4, 0, 0), (.sipush 620, 3, 0, 0, 620)] (pc1 := 8) (lo1 := [some (.ref 49), some (.int (nI i)), some (.ref 48), some (.int (nI j)), some (.int (nI k))]) (st1 := [.int 620, .int (nI k)]) (μ1 := μ1) (vc := True) rfl (by decide +kernel) rfl trivial ?_
    refine pm_icmp_ge (off := 21) 29 (by decide +kernel) (by decide) (fun (h8 : 620 ≤ (nI k)) => ?_) (fun (h9 : ¬ (620 ≤ (nI k))) => absurd (nI_le (a := 620) (by omega) (by omega)) h9)
    exact pm_vret rfl (by decide) (by decide) (by decide +kernel) (⟨rfl, by rw [hm, show k = 620 from by omega]⟩)
  | succ n ih =>
    intro k hk μ1 hm
    refine pm_bl [(.iload 4, 2, 4, 0, 0), (.sipush 620, 3, 0, 0, 620)] (pc1 := 8) (lo1 := [some (.ref 49), some (.int (nI i)), some (.ref 48), some (.int (nI j)), some (.int (nI k))]) (st1 := [.int 620, .int (nI k)]) (μ1 := μ1) (vc := True) rfl (by decide +kernel) rfl trivial ?_
    refine pm_icmp_ge (off := 21) 29 (by decide +kernel) (by decide) (fun (h9 : 620 ≤ (nI k)) => absurd h9 (nI_ge (b := 620) (by omega) (by omega))) (fun (h8 : ¬ (620 ≤ (nI k))) => ?_)
    refine pm_bl [(.aload_n 2, 1, 2, 0, 0), (.iload_n 3, 1, 3, 0, 0), (.iload 4, 2, 4, 0, 0), (.iadd, 1, 0, 0, 0), (.aload_n 0, 1, 0, 0, 0), (.iload_n 1, 1, 1, 0, 0), (.iload 4, 2, 4, 0, 0), (.iadd, 1, 0, 0, 0)] (pc1 := 21) (lo1 := [some (.ref 49), some (.int (nI i)), some (.ref 48), some (.int (nI j)), some (.int (nI k))]) (st1 := [.int ((nI i) + (nI k)), .ref 49, .int ((nI j) + (nI k)), .ref 48]) (μ1 := μ1) (vc := True) rfl (by decide +kernel) rfl trivial ?_
    rw [(show ((nI i) + (nI k) : Int32) = nI ((i) + (k)) from by simp only [nI, Int32.ofNat_add, Int32.ofNat_mul]).trans (congrArg nI (show (i) + (k) = i + k from by omega))]
    refine pm_bl [(.iaload, 1, 0, 0, 0)] (pc1 := 22) (lo1 := [some (.ref 49), some (.int (nI i)), some (.ref 48), some (.int (nI j)), some (.int (nI k))]) (st1 := [.int (μ1.1 49 (nI (i + k)).toNatClampNeg), .int ((nI j) + (nI k)), .ref 48]) (μ1 := μ1) (vc := vp_in (nI (i + k)) 620 ∧ True) rfl (by decide +kernel) rfl ⟨(vp_in_nI (by omega) (by omega)), trivial⟩ ?_
    rw [(show ((nI j) + (nI k) : Int32) = nI ((j) + (k)) from by simp only [nI, Int32.ofNat_add, Int32.ofNat_mul]).trans (congrArg nI (show (j) + (k) = j + k from by omega))]
    refine pm_bl [(.iastore, 1, 0, 0, 0), (.iinc 4 1, 3, 4, 0, 1), (.goto (-23), 3, 3, 0, 0)] (pc1 := 3) (lo1 := [some (.ref 49), some (.int (nI i)), some (.ref 48), some (.int (nI j)), some (.int ((nI k) + 1))]) (st1 := []) (μ1 := pm_set μ1 48 ((nI (j + k)).toNatClampNeg) (μ1.1 49 (nI (i + k)).toNatClampNeg)) (vc := vp_in (nI (j + k)) 620 ∧ True) rfl (by decide +kernel) rfl ⟨(vp_in_nI (by omega) (by omega)), trivial⟩ ?_
    try rw [nI_clamp (n := (j + k)) (by omega)]
    rw [nI_1]; refine ih (k + 1) (by omega) _ ?_
    try rw [nI_clamp (n := i + k) (by omega)]
    try rw [nI_clamp (n := j + k) (by omega)]
    rw [hm]
    exact lr_cpy_s (by decide)
set_option maxHeartbeats 4000000 in
set_option maxRecDepth 100000 in
theorem c_X10_copies_49_48 {i j : Nat} (μ : pm_Mm) (hi : i + 620 ≤ 620) (hj : j + 620 ≤ 620) : pm_CT mi_X10_copies [.ref 49, .int (nI i), .ref 48, .int (nI j)] μ (fun v μ2 => v = none ∧ μ2 = pm_row μ 48 (lr_cpy (μ.1 49) (μ.1 48) i j 620)) pm_NX := by
  refine pm_CT_of (lo := [some (.ref 49), some (.int (nI i)), some (.ref 48), some (.int (nI j)), none]) (by decide +kernel) rfl rfl (by intro v hv; simp at hv; rcases hv with rfl | rfl | rfl | rfl <;> rfl) (Nat.le_of_ble_eq_true rfl) rfl ?_
  refine pm_bl [(.iconst 0, 1, 0, 0, 0), (.istore 4, 2, 4, 0, 0)] (pc1 := 3) (lo1 := [some (.ref 49), some (.int (nI i)), some (.ref 48), some (.int (nI j)), some (.int 0)]) (st1 := []) (μ1 := μ) (vc := True) rfl (by decide +kernel) rfl trivial ?_
  exact l_X10_copies_49_48 μ hi hj 620 0 rfl μ (by rw [lr_cpy_0, pm_row_self])
set_option maxHeartbeats 4000000 in
set_option maxRecDepth 100000 in
theorem l_X10_copies_48_50 {i j : Nat} (μ : pm_Mm) (hi : i + 620 ≤ 620) (hj : j + 620 ≤ 620) : ∀ n k : Nat, k + n = 620 → ∀ μ1 : pm_Mm, μ1 = pm_row μ 50 (lr_cpy (μ.1 48) (μ.1 50) i j k) → pm_V mi_X10_copies ((fun v μ2 => v = none ∧ μ2 = pm_row μ 50 (lr_cpy (μ.1 48) (μ.1 50) i j 620)), pm_NX, fun _ _ _ => True) 0 0 3 [some (.ref 48), some (.int (nI i)), some (.ref 50), some (.int (nI j)), some (.int (nI k))] [] μ1 := by
  intro n
  induction n with
  | zero =>
    intro k hk μ1 hm
    refine pm_bl [(.iload 4, 2, 4, 0, 0), (.sipush 620, 3, 0, 0, 620)] (pc1 := 8) (lo1 := [some (.ref 48), some (.int (nI i)), some (.ref 50), some (.int (nI j)), some (.int (nI k))]) (st1 := [.int 620, .int (nI k)]) (μ1 := μ1) (vc := True) rfl (by decide +kernel) rfl trivial ?_
    refine pm_icmp_ge (off := 21) 29 (by decide +kernel) (by decide) (fun (h8 : 620 ≤ (nI k)) => ?_) (fun (h9 : ¬ (620 ≤ (nI k))) => absurd (nI_le (a := 620) (by omega) (by omega)) h9)
    exact pm_vret rfl (by decide) (by decide) (by decide +kernel) (⟨rfl, by rw [hm, show k = 620 from by omega]⟩)
  | succ n ih =>
    intro k hk μ1 hm
    refine pm_bl [(.iload 4, 2, 4, 0, 0), (.sipush 620, 3, 0, 0, 620)] (pc1 := 8) (lo1 := [some (.ref 48), some (.int (nI i)), some (.ref 50), some (.int (nI j)), some (.int (nI k))]) (st1 := [.int 620, .int (nI k)]) (μ1 := μ1) (vc := True) rfl (by decide +kernel) rfl trivial ?_
    refine pm_icmp_ge (off := 21) 29 (by decide +kernel) (by decide) (fun (h9 : 620 ≤ (nI k)) => absurd h9 (nI_ge (b := 620) (by omega) (by omega))) (fun (h8 : ¬ (620 ≤ (nI k))) => ?_)
    refine pm_bl [(.aload_n 2, 1, 2, 0, 0), (.iload_n 3, 1, 3, 0, 0), (.iload 4, 2, 4, 0, 0), (.iadd, 1, 0, 0, 0), (.aload_n 0, 1, 0, 0, 0), (.iload_n 1, 1, 1, 0, 0), (.iload 4, 2, 4, 0, 0), (.iadd, 1, 0, 0, 0)] (pc1 := 21) (lo1 := [some (.ref 48), some (.int (nI i)), some (.ref 50), some (.int (nI j)), some (.int (nI k))]) (st1 := [.int ((nI i) + (nI k)), .ref 48, .int ((nI j) + (nI k)), .ref 50]) (μ1 := μ1) (vc := True) rfl (by decide +kernel) rfl trivial ?_
    rw [(show ((nI i) + (nI k) : Int32) = nI ((i) + (k)) from by simp only [nI, Int32.ofNat_add, Int32.ofNat_mul]).trans (congrArg nI (show (i) + (k) = i + k from by omega))]
    refine pm_bl [(.iaload, 1, 0, 0, 0)] (pc1 := 22) (lo1 := [some (.ref 48), some (.int (nI i)), some (.ref 50), some (.int (nI j)), some (.int (nI k))]) (st1 := [.int (μ1.1 48 (nI (i + k)).toNatClampNeg), .int ((nI j) + (nI k)), .ref 50]) (μ1 := μ1) (vc := vp_in (nI (i + k)) 620 ∧ True) rfl (by decide +kernel) rfl ⟨(vp_in_nI (by omega) (by omega)), trivial⟩ ?_
    rw [(show ((nI j) + (nI k) : Int32) = nI ((j) + (k)) from by simp only [nI, Int32.ofNat_add, Int32.ofNat_mul]).trans (congrArg nI (show (j) + (k) = j + k from by omega))]
    refine pm_bl [(.iastore, 1, 0, 0, 0), (.iinc 4 1, 3, 4, 0, 1), (.goto (-23), 3, 3, 0, 0)] (pc1 := 3) (lo1 := [some (.ref 48), some (.int (nI i)), some (.ref 50), some (.int (nI j)), some (.int ((nI k) + 1))]) (st1 := []) (μ1 := pm_set μ1 50 ((nI (j + k)).toNatClampNeg) (μ1.1 48 (nI (i + k)).toNatClampNeg)) (vc := vp_in (nI (j + k)) 620 ∧ True) rfl (by decide +kernel) rfl ⟨(vp_in_nI (by omega) (by omega)), trivial⟩ ?_
    try rw [nI_clamp (n := (j + k)) (by omega)]
    rw [nI_1]; refine ih (k + 1) (by omega) _ ?_
    try rw [nI_clamp (n := i + k) (by omega)]
    try rw [nI_clamp (n := j + k) (by omega)]
    rw [hm]
    exact lr_cpy_s (by decide)
set_option maxHeartbeats 4000000 in
set_option maxRecDepth 100000 in
theorem c_X10_copies_48_50 {i j : Nat} (μ : pm_Mm) (hi : i + 620 ≤ 620) (hj : j + 620 ≤ 620) : pm_CT mi_X10_copies [.ref 48, .int (nI i), .ref 50, .int (nI j)] μ (fun v μ2 => v = none ∧ μ2 = pm_row μ 50 (lr_cpy (μ.1 48) (μ.1 50) i j 620)) pm_NX := by
  refine pm_CT_of (lo := [some (.ref 48), some (.int (nI i)), some (.ref 50), some (.int (nI j)), none]) (by decide +kernel) rfl rfl (by intro v hv; simp at hv; rcases hv with rfl | rfl | rfl | rfl <;> rfl) (Nat.le_of_ble_eq_true rfl) rfl ?_
  refine pm_bl [(.iconst 0, 1, 0, 0, 0), (.istore 4, 2, 4, 0, 0)] (pc1 := 3) (lo1 := [some (.ref 48), some (.int (nI i)), some (.ref 50), some (.int (nI j)), some (.int 0)]) (st1 := []) (μ1 := μ) (vc := True) rfl (by decide +kernel) rfl trivial ?_
  exact l_X10_copies_48_50 μ hi hj 620 0 rfl μ (by rw [lr_cpy_0, pm_row_self])
set_option maxHeartbeats 4000000 in
set_option maxRecDepth 100000 in
theorem l_X10_copies_50_48 {i j : Nat} (μ : pm_Mm) (hi : i + 620 ≤ 620) (hj : j + 620 ≤ 620) : ∀ n k : Nat, k + n = 620 → ∀ μ1 : pm_Mm, μ1 = pm_row μ 48 (lr_cpy (μ.1 50) (μ.1 48) i j k) → pm_V mi_X10_copies ((fun v μ2 => v = none ∧ μ2 = pm_row μ 48 (lr_cpy (μ.1 50) (μ.1 48) i j 620)), pm_NX, fun _ _ _ => True) 0 0 3 [some (.ref 50), some (.int (nI i)), some (.ref 48), some (.int (nI j)), some (.int (nI k))] [] μ1 := by
  intro n
  induction n with
  | zero =>
    intro k hk μ1 hm
    refine pm_bl [(.iload 4, 2, 4, 0, 0), (.sipush 620, 3, 0, 0, 620)] (pc1 := 8) (lo1 := [some (.ref 50), some (.int (nI i)), some (.ref 48), some (.int (nI j)), some (.int (nI k))]) (st1 := [.int 620, .int (nI k)]) (μ1 := μ1) (vc := True) rfl (by decide +kernel) rfl trivial ?_
    refine pm_icmp_ge (off := 21) 29 (by decide +kernel) (by decide) (fun (h8 : 620 ≤ (nI k)) => ?_) (fun (h9 : ¬ (620 ≤ (nI k))) => absurd (nI_le (a := 620) (by omega) (by omega)) h9)
    exact pm_vret rfl (by decide) (by decide) (by decide +kernel) (⟨rfl, by rw [hm, show k = 620 from by omega]⟩)
  | succ n ih =>
    intro k hk μ1 hm
    refine pm_bl [(.iload 4, 2, 4, 0, 0), (.sipush 620, 3, 0, 0, 620)] (pc1 := 8) (lo1 := [some (.ref 50), some (.int (nI i)), some (.ref 48), some (.int (nI j)), some (.int (nI k))]) (st1 := [.int 620, .int (nI k)]) (μ1 := μ1) (vc := True) rfl (by decide +kernel) rfl trivial ?_
    refine pm_icmp_ge (off := 21) 29 (by decide +kernel) (by decide) (fun (h9 : 620 ≤ (nI k)) => absurd h9 (nI_ge (b := 620) (by omega) (by omega))) (fun (h8 : ¬ (620 ≤ (nI k))) => ?_)
    refine pm_bl [(.aload_n 2, 1, 2, 0, 0), (.iload_n 3, 1, 3, 0, 0), (.iload 4, 2, 4, 0, 0), (.iadd, 1, 0, 0, 0), (.aload_n 0, 1, 0, 0, 0), (.iload_n 1, 1, 1, 0, 0), (.iload 4, 2, 4, 0, 0), (.iadd, 1, 0, 0, 0)] (pc1 := 21) (lo1 := [some (.ref 50), some (.int (nI i)), some (.ref 48), some (.int (nI j)), some (.int (nI k))]) (st1 := [.int ((nI i) + (nI k)), .ref 50, .int ((nI j) + (nI k)), .ref 48]) (μ1 := μ1) (vc := True) rfl (by decide +kernel) rfl trivial ?_
    rw [(show ((nI i) + (nI k) : Int32) = nI ((i) + (k)) from by simp only [nI, Int32.ofNat_add, Int32.ofNat_mul]).trans (congrArg nI (show (i) + (k) = i + k from by omega))]
    refine pm_bl [(.iaload, 1, 0, 0, 0)] (pc1 := 22) (lo1 := [some (.ref 50), some (.int (nI i)), some (.ref 48), some (.int (nI j)), some (.int (nI k))]) (st1 := [.int (μ1.1 50 (nI (i + k)).toNatClampNeg), .int ((nI j) + (nI k)), .ref 48]) (μ1 := μ1) (vc := vp_in (nI (i + k)) 620 ∧ True) rfl (by decide +kernel) rfl ⟨(vp_in_nI (by omega) (by omega)), trivial⟩ ?_
    rw [(show ((nI j) + (nI k) : Int32) = nI ((j) + (k)) from by simp only [nI, Int32.ofNat_add, Int32.ofNat_mul]).trans (congrArg nI (show (j) + (k) = j + k from by omega))]
    refine pm_bl [(.iastore, 1, 0, 0, 0), (.iinc 4 1, 3, 4, 0, 1), (.goto (-23), 3, 3, 0, 0)] (pc1 := 3) (lo1 := [some (.ref 50), some (.int (nI i)), some (.ref 48), some (.int (nI j)), some (.int ((nI k) + 1))]) (st1 := []) (μ1 := pm_set μ1 48 ((nI (j + k)).toNatClampNeg) (μ1.1 50 (nI (i + k)).toNatClampNeg)) (vc := vp_in (nI (j + k)) 620 ∧ True) rfl (by decide +kernel) rfl ⟨(vp_in_nI (by omega) (by omega)), trivial⟩ ?_
    try rw [nI_clamp (n := (j + k)) (by omega)]
    rw [nI_1]; refine ih (k + 1) (by omega) _ ?_
    try rw [nI_clamp (n := i + k) (by omega)]
    try rw [nI_clamp (n := j + k) (by omega)]
    rw [hm]
    exact lr_cpy_s (by decide)
set_option maxHeartbeats 4000000 in
set_option maxRecDepth 100000 in
theorem c_X10_copies_50_48 {i j : Nat} (μ : pm_Mm) (hi : i + 620 ≤ 620) (hj : j + 620 ≤ 620) : pm_CT mi_X10_copies [.ref 50, .int (nI i), .ref 48, .int (nI j)] μ (fun v μ2 => v = none ∧ μ2 = pm_row μ 48 (lr_cpy (μ.1 50) (μ.1 48) i j 620)) pm_NX := by
  refine pm_CT_of (lo := [some (.ref 50), some (.int (nI i)), some (.ref 48), some (.int (nI j)), none]) (by decide +kernel) rfl rfl (by intro v hv; simp at hv; rcases hv with rfl | rfl | rfl | rfl <;> rfl) (Nat.le_of_ble_eq_true rfl) rfl ?_
  refine pm_bl [(.iconst 0, 1, 0, 0, 0), (.istore 4, 2, 4, 0, 0)] (pc1 := 3) (lo1 := [some (.ref 50), some (.int (nI i)), some (.ref 48), some (.int (nI j)), some (.int 0)]) (st1 := []) (μ1 := μ) (vc := True) rfl (by decide +kernel) rfl trivial ?_
  exact l_X10_copies_50_48 μ hi hj 620 0 rfl μ (by rw [lr_cpy_0, pm_row_self])
set_option maxHeartbeats 4000000 in
set_option maxRecDepth 100000 in
theorem l_X10_copies_51_48 {i j : Nat} (μ : pm_Mm) (hi : i + 620 ≤ 4960) (hj : j + 620 ≤ 620) : ∀ n k : Nat, k + n = 620 → ∀ μ1 : pm_Mm, μ1 = pm_row μ 48 (lr_cpy (μ.1 51) (μ.1 48) i j k) → pm_V mi_X10_copies ((fun v μ2 => v = none ∧ μ2 = pm_row μ 48 (lr_cpy (μ.1 51) (μ.1 48) i j 620)), pm_NX, fun _ _ _ => True) 0 0 3 [some (.ref 51), some (.int (nI i)), some (.ref 48), some (.int (nI j)), some (.int (nI k))] [] μ1 := by
  intro n
  induction n with
  | zero =>
    intro k hk μ1 hm
    refine pm_bl [(.iload 4, 2, 4, 0, 0), (.sipush 620, 3, 0, 0, 620)] (pc1 := 8) (lo1 := [some (.ref 51), some (.int (nI i)), some (.ref 48), some (.int (nI j)), some (.int (nI k))]) (st1 := [.int 620, .int (nI k)]) (μ1 := μ1) (vc := True) rfl (by decide +kernel) rfl trivial ?_
    refine pm_icmp_ge (off := 21) 29 (by decide +kernel) (by decide) (fun (h8 : 620 ≤ (nI k)) => ?_) (fun (h9 : ¬ (620 ≤ (nI k))) => absurd (nI_le (a := 620) (by omega) (by omega)) h9)
    exact pm_vret rfl (by decide) (by decide) (by decide +kernel) (⟨rfl, by rw [hm, show k = 620 from by omega]⟩)
  | succ n ih =>
    intro k hk μ1 hm
    refine pm_bl [(.iload 4, 2, 4, 0, 0), (.sipush 620, 3, 0, 0, 620)] (pc1 := 8) (lo1 := [some (.ref 51), some (.int (nI i)), some (.ref 48), some (.int (nI j)), some (.int (nI k))]) (st1 := [.int 620, .int (nI k)]) (μ1 := μ1) (vc := True) rfl (by decide +kernel) rfl trivial ?_
    refine pm_icmp_ge (off := 21) 29 (by decide +kernel) (by decide) (fun (h9 : 620 ≤ (nI k)) => absurd h9 (nI_ge (b := 620) (by omega) (by omega))) (fun (h8 : ¬ (620 ≤ (nI k))) => ?_)
    refine pm_bl [(.aload_n 2, 1, 2, 0, 0), (.iload_n 3, 1, 3, 0, 0), (.iload 4, 2, 4, 0, 0), (.iadd, 1, 0, 0, 0), (.aload_n 0, 1, 0, 0, 0), (.iload_n 1, 1, 1, 0, 0), (.iload 4, 2, 4, 0, 0), (.iadd, 1, 0, 0, 0)] (pc1 := 21) (lo1 := [some (.ref 51), some (.int (nI i)), some (.ref 48), some (.int (nI j)), some (.int (nI k))]) (st1 := [.int ((nI i) + (nI k)), .ref 51, .int ((nI j) + (nI k)), .ref 48]) (μ1 := μ1) (vc := True) rfl (by decide +kernel) rfl trivial ?_
    rw [(show ((nI i) + (nI k) : Int32) = nI ((i) + (k)) from by simp only [nI, Int32.ofNat_add, Int32.ofNat_mul]).trans (congrArg nI (show (i) + (k) = i + k from by omega))]
    refine pm_bl [(.iaload, 1, 0, 0, 0)] (pc1 := 22) (lo1 := [some (.ref 51), some (.int (nI i)), some (.ref 48), some (.int (nI j)), some (.int (nI k))]) (st1 := [.int (μ1.1 51 (nI (i + k)).toNatClampNeg), .int ((nI j) + (nI k)), .ref 48]) (μ1 := μ1) (vc := vp_in (nI (i + k)) 4960 ∧ True) rfl (by decide +kernel) rfl ⟨(vp_in_nI (by omega) (by omega)), trivial⟩ ?_
    rw [(show ((nI j) + (nI k) : Int32) = nI ((j) + (k)) from by simp only [nI, Int32.ofNat_add, Int32.ofNat_mul]).trans (congrArg nI (show (j) + (k) = j + k from by omega))]
    refine pm_bl [(.iastore, 1, 0, 0, 0), (.iinc 4 1, 3, 4, 0, 1), (.goto (-23), 3, 3, 0, 0)] (pc1 := 3) (lo1 := [some (.ref 51), some (.int (nI i)), some (.ref 48), some (.int (nI j)), some (.int ((nI k) + 1))]) (st1 := []) (μ1 := pm_set μ1 48 ((nI (j + k)).toNatClampNeg) (μ1.1 51 (nI (i + k)).toNatClampNeg)) (vc := vp_in (nI (j + k)) 620 ∧ True) rfl (by decide +kernel) rfl ⟨(vp_in_nI (by omega) (by omega)), trivial⟩ ?_
    try rw [nI_clamp (n := (j + k)) (by omega)]
    rw [nI_1]; refine ih (k + 1) (by omega) _ ?_
    try rw [nI_clamp (n := i + k) (by omega)]
    try rw [nI_clamp (n := j + k) (by omega)]
    rw [hm]
    exact lr_cpy_s (by decide)
set_option maxHeartbeats 4000000 in
set_option maxRecDepth 100000 in
theorem c_X10_copies_51_48 {i j : Nat} (μ : pm_Mm) (hi : i + 620 ≤ 4960) (hj : j + 620 ≤ 620) : pm_CT mi_X10_copies [.ref 51, .int (nI i), .ref 48, .int (nI j)] μ (fun v μ2 => v = none ∧ μ2 = pm_row μ 48 (lr_cpy (μ.1 51) (μ.1 48) i j 620)) pm_NX := by
  refine pm_CT_of (lo := [some (.ref 51), some (.int (nI i)), some (.ref 48), some (.int (nI j)), none]) (by decide +kernel) rfl rfl (by intro v hv; simp at hv; rcases hv with rfl | rfl | rfl | rfl <;> rfl) (Nat.le_of_ble_eq_true rfl) rfl ?_
  refine pm_bl [(.iconst 0, 1, 0, 0, 0), (.istore 4, 2, 4, 0, 0)] (pc1 := 3) (lo1 := [some (.ref 51), some (.int (nI i)), some (.ref 48), some (.int (nI j)), some (.int 0)]) (st1 := []) (μ1 := μ) (vc := True) rfl (by decide +kernel) rfl trivial ?_
  exact l_X10_copies_51_48 μ hi hj 620 0 rfl μ (by rw [lr_cpy_0, pm_row_self])
set_option maxHeartbeats 4000000 in
set_option maxRecDepth 100000 in
theorem l_X10_copies_48_51 {i j : Nat} (μ : pm_Mm) (hi : i + 620 ≤ 620) (hj : j + 620 ≤ 4960) : ∀ n k : Nat, k + n = 620 → ∀ μ1 : pm_Mm, μ1 = pm_row μ 51 (lr_cpy (μ.1 48) (μ.1 51) i j k) → pm_V mi_X10_copies ((fun v μ2 => v = none ∧ μ2 = pm_row μ 51 (lr_cpy (μ.1 48) (μ.1 51) i j 620)), pm_NX, fun _ _ _ => True) 0 0 3 [some (.ref 48), some (.int (nI i)), some (.ref 51), some (.int (nI j)), some (.int (nI k))] [] μ1 := by
  intro n
  induction n with
  | zero =>
    intro k hk μ1 hm
    refine pm_bl [(.iload 4, 2, 4, 0, 0), (.sipush 620, 3, 0, 0, 620)] (pc1 := 8) (lo1 := [some (.ref 48), some (.int (nI i)), some (.ref 51), some (.int (nI j)), some (.int (nI k))]) (st1 := [.int 620, .int (nI k)]) (μ1 := μ1) (vc := True) rfl (by decide +kernel) rfl trivial ?_
    refine pm_icmp_ge (off := 21) 29 (by decide +kernel) (by decide) (fun (h8 : 620 ≤ (nI k)) => ?_) (fun (h9 : ¬ (620 ≤ (nI k))) => absurd (nI_le (a := 620) (by omega) (by omega)) h9)
    exact pm_vret rfl (by decide) (by decide) (by decide +kernel) (⟨rfl, by rw [hm, show k = 620 from by omega]⟩)
  | succ n ih =>
    intro k hk μ1 hm
    refine pm_bl [(.iload 4, 2, 4, 0, 0), (.sipush 620, 3, 0, 0, 620)] (pc1 := 8) (lo1 := [some (.ref 48), some (.int (nI i)), some (.ref 51), some (.int (nI j)), some (.int (nI k))]) (st1 := [.int 620, .int (nI k)]) (μ1 := μ1) (vc := True) rfl (by decide +kernel) rfl trivial ?_
    refine pm_icmp_ge (off := 21) 29 (by decide +kernel) (by decide) (fun (h9 : 620 ≤ (nI k)) => absurd h9 (nI_ge (b := 620) (by omega) (by omega))) (fun (h8 : ¬ (620 ≤ (nI k))) => ?_)
    refine pm_bl [(.aload_n 2, 1, 2, 0, 0), (.iload_n 3, 1, 3, 0, 0), (.iload 4, 2, 4, 0, 0), (.iadd, 1, 0, 0, 0), (.aload_n 0, 1, 0, 0, 0), (.iload_n 1, 1, 1, 0, 0), (.iload 4, 2, 4, 0, 0), (.iadd, 1, 0, 0, 0)] (pc1 := 21) (lo1 := [some (.ref 48), some (.int (nI i)), some (.ref 51), some (.int (nI j)), some (.int (nI k))]) (st1 := [.int ((nI i) + (nI k)), .ref 48, .int ((nI j) + (nI k)), .ref 51]) (μ1 := μ1) (vc := True) rfl (by decide +kernel) rfl trivial ?_
    rw [(show ((nI i) + (nI k) : Int32) = nI ((i) + (k)) from by simp only [nI, Int32.ofNat_add, Int32.ofNat_mul]).trans (congrArg nI (show (i) + (k) = i + k from by omega))]
    refine pm_bl [(.iaload, 1, 0, 0, 0)] (pc1 := 22) (lo1 := [some (.ref 48), some (.int (nI i)), some (.ref 51), some (.int (nI j)), some (.int (nI k))]) (st1 := [.int (μ1.1 48 (nI (i + k)).toNatClampNeg), .int ((nI j) + (nI k)), .ref 51]) (μ1 := μ1) (vc := vp_in (nI (i + k)) 620 ∧ True) rfl (by decide +kernel) rfl ⟨(vp_in_nI (by omega) (by omega)), trivial⟩ ?_
    rw [(show ((nI j) + (nI k) : Int32) = nI ((j) + (k)) from by simp only [nI, Int32.ofNat_add, Int32.ofNat_mul]).trans (congrArg nI (show (j) + (k) = j + k from by omega))]
    refine pm_bl [(.iastore, 1, 0, 0, 0), (.iinc 4 1, 3, 4, 0, 1), (.goto (-23), 3, 3, 0, 0)] (pc1 := 3) (lo1 := [some (.ref 48), some (.int (nI i)), some (.ref 51), some (.int (nI j)), some (.int ((nI k) + 1))]) (st1 := []) (μ1 := pm_set μ1 51 ((nI (j + k)).toNatClampNeg) (μ1.1 48 (nI (i + k)).toNatClampNeg)) (vc := vp_in (nI (j + k)) 4960 ∧ True) rfl (by decide +kernel) rfl ⟨(vp_in_nI (by omega) (by omega)), trivial⟩ ?_
    try rw [nI_clamp (n := (j + k)) (by omega)]
    rw [nI_1]; refine ih (k + 1) (by omega) _ ?_
    try rw [nI_clamp (n := i + k) (by omega)]
    try rw [nI_clamp (n := j + k) (by omega)]
    rw [hm]
    exact lr_cpy_s (by decide)
set_option maxHeartbeats 4000000 in
set_option maxRecDepth 100000 in
theorem c_X10_copies_48_51 {i j : Nat} (μ : pm_Mm) (hi : i + 620 ≤ 620) (hj : j + 620 ≤ 4960) : pm_CT mi_X10_copies [.ref 48, .int (nI i), .ref 51, .int (nI j)] μ (fun v μ2 => v = none ∧ μ2 = pm_row μ 51 (lr_cpy (μ.1 48) (μ.1 51) i j 620)) pm_NX := by
  refine pm_CT_of (lo := [some (.ref 48), some (.int (nI i)), some (.ref 51), some (.int (nI j)), none]) (by decide +kernel) rfl rfl (by intro v hv; simp at hv; rcases hv with rfl | rfl | rfl | rfl <;> rfl) (Nat.le_of_ble_eq_true rfl) rfl ?_
  refine pm_bl [(.iconst 0, 1, 0, 0, 0), (.istore 4, 2, 4, 0, 0)] (pc1 := 3) (lo1 := [some (.ref 48), some (.int (nI i)), some (.ref 51), some (.int (nI j)), some (.int 0)]) (st1 := []) (μ1 := μ) (vc := True) rfl (by decide +kernel) rfl trivial ?_
  exact l_X10_copies_48_51 μ hi hj 620 0 rfl μ (by rw [lr_cpy_0, pm_row_self])
set_option maxHeartbeats 4000000 in
set_option maxRecDepth 100000 in
theorem l_X10_copies_50_51 {i j : Nat} (μ : pm_Mm) (hi : i + 620 ≤ 620) (hj : j + 620 ≤ 4960) : ∀ n k : Nat, k + n = 620 → ∀ μ1 : pm_Mm, μ1 = pm_row μ 51 (lr_cpy (μ.1 50) (μ.1 51) i j k) → pm_V mi_X10_copies ((fun v μ2 => v = none ∧ μ2 = pm_row μ 51 (lr_cpy (μ.1 50) (μ.1 51) i j 620)), pm_NX, fun _ _ _ => True) 0 0 3 [some (.ref 50), some (.int (nI i)), some (.ref 51), some (.int (nI j)), some (.int (nI k))] [] μ1 := by
  intro n
  induction n with
  | zero =>
    intro k hk μ1 hm
    refine pm_bl [(.iload 4, 2, 4, 0, 0), (.sipush 620, 3, 0, 0, 620)] (pc1 := 8) (lo1 := [some (.ref 50), some (.int (nI i)), some (.ref 51), some (.int (nI j)), some (.int (nI k))]) (st1 := [.int 620, .int (nI k)]) (μ1 := μ1) (vc := True) rfl (by decide +kernel) rfl trivial ?_
    refine pm_icmp_ge (off := 21) 29 (by decide +kernel) (by decide) (fun (h8 : 620 ≤ (nI k)) => ?_) (fun (h9 : ¬ (620 ≤ (nI k))) => absurd (nI_le (a := 620) (by omega) (by omega)) h9)
    exact pm_vret rfl (by decide) (by decide) (by decide +kernel) (⟨rfl, by rw [hm, show k = 620 from by omega]⟩)
  | succ n ih =>
    intro k hk μ1 hm
    refine pm_bl [(.iload 4, 2, 4, 0, 0), (.sipush 620, 3, 0, 0, 620)] (pc1 := 8) (lo1 := [some (.ref 50), some (.int (nI i)), some (.ref 51), some (.int (nI j)), some (.int (nI k))]) (st1 := [.int 620, .int (nI k)]) (μ1 := μ1) (vc := True) rfl (by decide +kernel) rfl trivial ?_
    refine pm_icmp_ge (off := 21) 29 (by decide +kernel) (by decide) (fun (h9 : 620 ≤ (nI k)) => absurd h9 (nI_ge (b := 620) (by omega) (by omega))) (fun (h8 : ¬ (620 ≤ (nI k))) => ?_)
    refine pm_bl [(.aload_n 2, 1, 2, 0, 0), (.iload_n 3, 1, 3, 0, 0), (.iload 4, 2, 4, 0, 0), (.iadd, 1, 0, 0, 0), (.aload_n 0, 1, 0, 0, 0), (.iload_n 1, 1, 1, 0, 0), (.iload 4, 2, 4, 0, 0), (.iadd, 1, 0, 0, 0)] (pc1 := 21) (lo1 := [some (.ref 50), some (.int (nI i)), some (.ref 51), some (.int (nI j)), some (.int (nI k))]) (st1 := [.int ((nI i) + (nI k)), .ref 50, .int ((nI j) + (nI k)), .ref 51]) (μ1 := μ1) (vc := True) rfl (by decide +kernel) rfl trivial ?_
    rw [(show ((nI i) + (nI k) : Int32) = nI ((i) + (k)) from by simp only [nI, Int32.ofNat_add, Int32.ofNat_mul]).trans (congrArg nI (show (i) + (k) = i + k from by omega))]
    refine pm_bl [(.iaload, 1, 0, 0, 0)] (pc1 := 22) (lo1 := [some (.ref 50), some (.int (nI i)), some (.ref 51), some (.int (nI j)), some (.int (nI k))]) (st1 := [.int (μ1.1 50 (nI (i + k)).toNatClampNeg), .int ((nI j) + (nI k)), .ref 51]) (μ1 := μ1) (vc := vp_in (nI (i + k)) 620 ∧ True) rfl (by decide +kernel) rfl ⟨(vp_in_nI (by omega) (by omega)), trivial⟩ ?_
    rw [(show ((nI j) + (nI k) : Int32) = nI ((j) + (k)) from by simp only [nI, Int32.ofNat_add, Int32.ofNat_mul]).trans (congrArg nI (show (j) + (k) = j + k from by omega))]
    refine pm_bl [(.iastore, 1, 0, 0, 0), (.iinc 4 1, 3, 4, 0, 1), (.goto (-23), 3, 3, 0, 0)] (pc1 := 3) (lo1 := [some (.ref 50), some (.int (nI i)), some (.ref 51), some (.int (nI j)), some (.int ((nI k) + 1))]) (st1 := []) (μ1 := pm_set μ1 51 ((nI (j + k)).toNatClampNeg) (μ1.1 50 (nI (i + k)).toNatClampNeg)) (vc := vp_in (nI (j + k)) 4960 ∧ True) rfl (by decide +kernel) rfl ⟨(vp_in_nI (by omega) (by omega)), trivial⟩ ?_
    try rw [nI_clamp (n := (j + k)) (by omega)]
    rw [nI_1]; refine ih (k + 1) (by omega) _ ?_
    try rw [nI_clamp (n := i + k) (by omega)]
    try rw [nI_clamp (n := j + k) (by omega)]
    rw [hm]
    exact lr_cpy_s (by decide)
set_option maxHeartbeats 4000000 in
set_option maxRecDepth 100000 in
theorem c_X10_copies_50_51 {i j : Nat} (μ : pm_Mm) (hi : i + 620 ≤ 620) (hj : j + 620 ≤ 4960) : pm_CT mi_X10_copies [.ref 50, .int (nI i), .ref 51, .int (nI j)] μ (fun v μ2 => v = none ∧ μ2 = pm_row μ 51 (lr_cpy (μ.1 50) (μ.1 51) i j 620)) pm_NX := by
  refine pm_CT_of (lo := [some (.ref 50), some (.int (nI i)), some (.ref 51), some (.int (nI j)), none]) (by decide +kernel) rfl rfl (by intro v hv; simp at hv; rcases hv with rfl | rfl | rfl | rfl <;> rfl) (Nat.le_of_ble_eq_true rfl) rfl ?_
  refine pm_bl [(.iconst 0, 1, 0, 0, 0), (.istore 4, 2, 4, 0, 0)] (pc1 := 3) (lo1 := [some (.ref 50), some (.int (nI i)), some (.ref 51), some (.int (nI j)), some (.int 0)]) (st1 := []) (μ1 := μ) (vc := True) rfl (by decide +kernel) rfl trivial ?_
  exact l_X10_copies_50_51 μ hi hj 620 0 rfl μ (by rw [lr_cpy_0, pm_row_self])
