/-! the model: leave when 20 absences are there -/
/-- absences moved down, so far as k -/
def lr_shk (g : Nat → Int32) (k : Nat) : Nat → Int32 := fun j => if 229 ≤ j ∧ j < k then g (j + 3) else g j
theorem lr_shk_0 (g : Nat → Int32) : lr_shk g 229 = g := by funext j; unfold lr_shk; rw [if_neg (by omega)]
theorem lr_shk_s {μ : pm_Mm} {g : Nat → Int32} {k : Nat} (hk : 229 ≤ k) : pm_set (pm_row μ 48 (lr_shk g k)) 48 k ((pm_row μ 48 (lr_shk g k)).1 48 (k + 3)) = pm_row μ 48 (lr_shk g (k + 1)) := by
  rw [pm_row_at]
  refine Prod.ext (funext fun r => funext fun x => ?_) rfl
  show (if r = 48 ∧ x = k then lr_shk g k (k + 3) else (if r = 48 then lr_shk g k else μ.1 r) x) = (if r = 48 then lr_shk g (k + 1) else μ.1 r) x
  by_cases hr : r = 48
  · rw [if_pos hr, if_pos hr]
    by_cases hx : x = k
    · rw [if_pos ⟨hr, hx⟩]; unfold lr_shk; rw [if_neg (by omega), if_pos (by omega), hx]
    · rw [if_neg (fun e => hx e.2)]; unfold lr_shk
      by_cases h1 : 229 ≤ x ∧ x < k
      · rw [if_pos h1, if_pos (by omega)]
      · rw [if_neg h1, if_neg (by omega)]
  · rw [if_neg (fun e => hr e.1), if_neg hr, if_neg hr]
set_option maxHeartbeats 4000000 in
set_option maxRecDepth 100000 in
theorem t_X10_leave {g : Nat → Int32} {m h : Nat} (P : Option Value → pm_Mm → Prop) (y z : Int32) (u : Option Value) (μ : pm_Mm) (hM : μ.1 48 = g) (h228 : g 228 = nI m) (hm : m < 20) (hP : ∀ μ2, lr_fm μ μ2 → μ2.1 48 = (upd (upd (upd (upd g (229 + 3 * m) (nI h)) (230 + 3 * m) y) (231 + 3 * m) z) 228 (nI (m + 1))) → P (some (.int (nI (m + 1)))) μ2) : pm_V mi_X10_leave (P, pm_NX, fun _ _ _ => True) 0 0 106 [some (.ref 47), some (.int (nI h)), some (.int y), some (.int z), u] [] μ := by
  refine pm_V.drop (lo' := [some (.ref 47), some (.int (nI h)), some (.int y), some (.int z), none]) ⟨rfl, rfl, rfl, rfl, trivial⟩ ?_
  refine pm_bl [(.sipush 229, 3, 0, 0, 229), (.iconst 3, 1, 0, 0, 3), (.aload_n 0, 1, 0, 0, 0), (.getfield 7, 3, 10, 0, 0), (.sipush 228, 3, 0, 0, 228), (.iaload, 1, 0, 0, 0)] (pc1 := 118) (lo1 := [some (.ref 47), some (.int (nI h)), some (.int y), some (.int z), none]) (st1 := [.int (μ.1 48 (228 : Int32).toNatClampNeg), .int 3, .int 229]) (μ1 := μ) (vc := vp_in 228 620 ∧ True) rfl (by decide +kernel) rfl ⟨(by unfold vp_in; decide), trivial⟩ ?_
  rw [show (228 : Int32).toNatClampNeg = 228 from by decide, hM, h228]
  refine pm_bl [(.imul, 1, 0, 0, 0), (.iadd, 1, 0, 0, 0), (.istore 4, 2, 4, 0, 0), (.aload_n 0, 1, 0, 0, 0), (.getfield 7, 3, 10, 0, 0), (.iload 4, 2, 4, 0, 0), (.iload_n 1, 1, 1, 0, 0)] (pc1 := 129) (lo1 := [some (.ref 47), some (.int (nI h)), some (.int y), some (.int z), some (.int (229 + (3 * (nI m))))]) (st1 := [.int (nI h), .int (229 + (3 * (nI m))), .ref 48]) (μ1 := μ) (vc := True) rfl (by decide +kernel) rfl trivial ?_
  rw [(show (229 + (3 * (nI m)) : Int32) = nI (229 + (3 * (m))) from by simp only [nI, Int32.ofNat_add, Int32.ofNat_mul]; rfl).trans (congrArg nI (show 229 + (3 * (m)) = 229 + 3 * m from by omega))]
  refine pm_bl [(.iastore, 1, 0, 0, 0), (.aload_n 0, 1, 0, 0, 0), (.getfield 7, 3, 10, 0, 0), (.iload 4, 2, 4, 0, 0), (.iconst 1, 1, 0, 0, 1), (.iadd, 1, 0, 0, 0), (.iload_n 2, 1, 2, 0, 0)] (pc1 := 139) (lo1 := [some (.ref 47), some (.int (nI h)), some (.int y), some (.int z), some (.int (nI (229 + 3 * m)))]) (st1 := [.int y, .int ((nI (229 + 3 * m)) + 1), .ref 48]) (μ1 := pm_set μ 48 ((nI (229 + 3 * m)).toNatClampNeg) (nI h)) (vc := vp_in (nI (229 + 3 * m)) 620 ∧ True) rfl (by decide +kernel) rfl ⟨(vp_in_nI (by omega) (by omega)), trivial⟩ ?_
  try rw [nI_clamp (n := (229 + 3 * m)) (by omega)]
  rw [(show ((nI (229 + 3 * m)) + 1 : Int32) = nI (((229 + 3 * m)) + 1) from by simp only [nI, Int32.ofNat_add, Int32.ofNat_mul]; rfl).trans (congrArg nI (show ((229 + 3 * m)) + 1 = 230 + 3 * m from by omega))]
  refine pm_bl [(.iastore, 1, 0, 0, 0), (.aload_n 0, 1, 0, 0, 0), (.getfield 7, 3, 10, 0, 0), (.iload 4, 2, 4, 0, 0), (.iconst 2, 1, 0, 0, 2), (.iadd, 1, 0, 0, 0), (.iload_n 3, 1, 3, 0, 0)] (pc1 := 149) (lo1 := [some (.ref 47), some (.int (nI h)), some (.int y), some (.int z), some (.int (nI (229 + 3 * m)))]) (st1 := [.int z, .int ((nI (229 + 3 * m)) + 2), .ref 48]) (μ1 := pm_set (pm_set μ 48 (229 + 3 * m) (nI h)) 48 ((nI (230 + 3 * m)).toNatClampNeg) y) (vc := vp_in (nI (230 + 3 * m)) 620 ∧ True) rfl (by decide +kernel) rfl ⟨(vp_in_nI (by omega) (by omega)), trivial⟩ ?_
  try rw [nI_clamp (n := (230 + 3 * m)) (by omega)]
  rw [(show ((nI (229 + 3 * m)) + 2 : Int32) = nI (((229 + 3 * m)) + 2) from by simp only [nI, Int32.ofNat_add, Int32.ofNat_mul]; rfl).trans (congrArg nI (show ((229 + 3 * m)) + 2 = 231 + 3 * m from by omega))]
  refine pm_bl [(.iastore, 1, 0, 0, 0), (.aload_n 0, 1, 0, 0, 0), (.getfield 7, 3, 10, 0, 0), (.sipush 228, 3, 0, 0, 228), (.dup2, 1, 0, 0, 0), (.iaload, 1, 0, 0, 0)] (pc1 := 159) (lo1 := [some (.ref 47), some (.int (nI h)), some (.int y), some (.int z), some (.int (nI (229 + 3 * m)))]) (st1 := [.int ((pm_set (pm_set (pm_set μ 48 (229 + 3 * m) (nI h)) 48 (230 + 3 * m) y) 48 ((nI (231 + 3 * m)).toNatClampNeg) z).1 48 (228 : Int32).toNatClampNeg), .int 228, .ref 48]) (μ1 := pm_set (pm_set (pm_set μ 48 (229 + 3 * m) (nI h)) 48 (230 + 3 * m) y) 48 ((nI (231 + 3 * m)).toNatClampNeg) z) (vc := vp_in (nI (231 + 3 * m)) 620 ∧ vp_in 228 620 ∧ True) rfl (by decide +kernel) rfl ⟨(vp_in_nI (by omega) (by omega)), (by unfold vp_in; decide), trivial⟩ ?_
  try rw [show (228 : Int32).toNatClampNeg = 228 from by decide]
  try rw [nI_clamp (n := (231 + 3 * m)) (by omega)]
  refine pm_bl [(.iconst 1, 1, 0, 0, 1), (.iadd, 1, 0, 0, 0), (.iastore, 1, 0, 0, 0), (.aload_n 0, 1, 0, 0, 0), (.getfield 7, 3, 10, 0, 0), (.sipush 228, 3, 0, 0, 228), (.iaload, 1, 0, 0, 0)] (pc1 := 170) (lo1 := [some (.ref 47), some (.int (nI h)), some (.int y), some (.int z), some (.int (nI (229 + 3 * m)))]) (st1 := [.int ((pm_set (pm_set (pm_set (pm_set μ 48 (229 + 3 * m) (nI h)) 48 (230 + 3 * m) y) 48 (231 + 3 * m) z) 48 ((228 : Int32).toNatClampNeg) (((pm_set (pm_set (pm_set μ 48 (229 + 3 * m) (nI h)) 48 (230 + 3 * m) y) 48 (231 + 3 * m) z).1 48 228) + 1)).1 48 (228 : Int32).toNatClampNeg)]) (μ1 := pm_set (pm_set (pm_set (pm_set μ 48 (229 + 3 * m) (nI h)) 48 (230 + 3 * m) y) 48 (231 + 3 * m) z) 48 ((228 : Int32).toNatClampNeg) (((pm_set (pm_set (pm_set μ 48 (229 + 3 * m) (nI h)) 48 (230 + 3 * m) y) 48 (231 + 3 * m) z).1 48 228) + 1)) (vc := vp_in 228 620 ∧ vp_in 228 620 ∧ True) rfl (by decide +kernel) rfl ⟨(by unfold vp_in; decide), (by unfold vp_in; decide), trivial⟩ ?_
  try rw [show (228 : Int32).toNatClampNeg = 228 from by decide]
  rw [show (pm_set (pm_set (pm_set (pm_set μ 48 (229 + 3 * m) (nI h)) 48 (230 + 3 * m) y) 48 (231 + 3 * m) z) 48 (228) (((pm_set (pm_set (pm_set μ 48 (229 + 3 * m) (nI h)) 48 (230 + 3 * m) y) 48 (231 + 3 * m) z).1 48 228) + 1)).1 48 228 = ((pm_set (pm_set (pm_set μ 48 (229 + 3 * m) (nI h)) 48 (230 + 3 * m) y) 48 (231 + 3 * m) z).1 48 228) + 1 from by rw [pm_set_hit] <;> omega]
  exact pm_iret (ty := .int) rfl rfl (by decide) (by decide) (by decide +kernel) (by rw [pm_set_miss, pm_set_miss, pm_set_miss, hM, h228, nI_1] <;> first | (right; omega) | exact hP _ (lr_fm.set (lr_fm.set (lr_fm.set (lr_fm.set lr_fm.rf)))) (by simp only [pm_set_at]; rw [hM]))
set_option maxHeartbeats 4000000 in
set_option maxRecDepth 100000 in
theorem l_X10_leave {g : Nat → Int32} {h : Nat} (P : Option Value → pm_Mm → Prop) (y z : Int32) (μ : pm_Mm) (hM : μ.1 48 = g) (h20 : g 228 = nI 20) (hP : ∀ μ2, lr_fm μ μ2 → μ2.1 48 = lr_gabs2 g (nI h) y z → P (some (.int (nI 20))) μ2) : ∀ n k : Nat, k + n = 286 → 229 ≤ k → ∀ μ1 : pm_Mm, μ1 = pm_row μ 48 (lr_shk g k) → pm_V mi_X10_leave (P, pm_NX, fun _ _ _ => True) 0 0 64 [some (.ref 47), some (.int (nI h)), some (.int y), some (.int z), some (.int (nI k))] [] μ1 := by
  intro n
  induction n with
  | zero =>
    intro k hk h2 μ1 hm
    refine pm_bl [(.iload 4, 2, 4, 0, 0), (.sipush 286, 3, 0, 0, 286)] (pc1 := 69) (lo1 := [some (.ref 47), some (.int (nI h)), some (.int y), some (.int z), some (.int (nI k))]) (st1 := [.int 286, .int (nI k)]) (μ1 := μ1) (vc := True) rfl (by decide +kernel) rfl trivial ?_
    refine pm_icmp_ge (off := 25) 94 (by decide +kernel) (by decide) (fun (h69 : 286 ≤ (nI k)) => ?_) (fun (h9 : ¬ (286 ≤ (nI k))) => absurd (nI_le (a := 286) (by omega) (by omega)) h9)
    refine pm_bl [(.aload_n 0, 1, 0, 0, 0), (.getfield 7, 3, 10, 0, 0), (.sipush 228, 3, 0, 0, 228), (.dup2, 1, 0, 0, 0), (.iaload, 1, 0, 0, 0)] (pc1 := 103) (lo1 := [some (.ref 47), some (.int (nI h)), some (.int y), some (.int z), some (.int (nI k))]) (st1 := [.int (μ1.1 48 (228 : Int32).toNatClampNeg), .int 228, .ref 48]) (μ1 := μ1) (vc := vp_in 228 620 ∧ True) rfl (by decide +kernel) rfl ⟨(by unfold vp_in; decide), trivial⟩ ?_
    rw [show (228 : Int32).toNatClampNeg = 228 from by decide, show μ1.1 48 228 = nI 20 from by rw [hm, pm_row_at]; exact h20]
    refine pm_bl [(.iconst 1, 1, 0, 0, 1), (.isub, 1, 0, 0, 0), (.iastore, 1, 0, 0, 0)] (pc1 := 106) (lo1 := [some (.ref 47), some (.int (nI h)), some (.int y), some (.int z), some (.int (nI k))]) (st1 := []) (μ1 := pm_set μ1 48 ((228 : Int32).toNatClampNeg) ((nI 20) - 1)) (vc := vp_in 228 620 ∧ True) rfl (by decide +kernel) rfl ⟨(by unfold vp_in; decide), trivial⟩ ?_
    try rw [show (228 : Int32).toNatClampNeg = 228 from by decide]
    rw [nI_pred]
    have e0 : lr_n g 228 = 20 := by unfold lr_n; rw [h20]; exact nI_clamp (by omega)
    have e1 : lr_n (lr_gsha g) 228 = 19 := by unfold lr_n; rw [show lr_gsha g 228 = nI 19 from by unfold lr_gsha; rw [if_neg (by omega), if_pos rfl]]; exact nI_clamp (by omega)
    refine t_X10_leave (g := lr_gsha g) (m := 19) P y z _ _ ?_ (by unfold lr_gsha; rw [if_neg (by omega), if_pos rfl]) (by omega) (fun μ2 hf hr => hP μ2 ?_ ?_)
    · rw [pm_set_at, hm, pm_row_at]; funext j; unfold upd lr_gsha lr_shk
      by_cases h8 : j = 228
      · rw [if_pos h8, if_neg (by omega), if_pos h8]
      · rw [if_neg h8]
        by_cases h7 : 229 ≤ j ∧ j < 286
        · rw [if_pos h7, if_pos (by omega)]
        · rw [if_neg h7, if_neg (by omega), if_neg h8]
    · exact ⟨fun i hi => by rw [hf.1 i hi, pm_set_off hi, hm, pm_row_off hi], by rw [hf.2, hm]; rfl⟩
    · rw [hr, lr_gabs2, if_pos e0, lr_gabs, e1]
  | succ n ih =>
    intro k hk h2 μ1 hm
    refine pm_bl [(.iload 4, 2, 4, 0, 0), (.sipush 286, 3, 0, 0, 286)] (pc1 := 69) (lo1 := [some (.ref 47), some (.int (nI h)), some (.int y), some (.int z), some (.int (nI k))]) (st1 := [.int 286, .int (nI k)]) (μ1 := μ1) (vc := True) rfl (by decide +kernel) rfl trivial ?_
    refine pm_icmp_ge (off := 25) 94 (by decide +kernel) (by decide) (fun (h9 : 286 ≤ (nI k)) => absurd h9 (nI_ge (b := 286) (by omega) (by omega))) (fun (h69 : ¬ (286 ≤ (nI k))) => ?_)
    refine pm_bl [(.aload_n 0, 1, 0, 0, 0), (.getfield 7, 3, 10, 0, 0), (.iload 4, 2, 4, 0, 0), (.aload_n 0, 1, 0, 0, 0), (.getfield 7, 3, 10, 0, 0), (.iload 4, 2, 4, 0, 0), (.iconst 3, 1, 0, 0, 3), (.iadd, 1, 0, 0, 0)] (pc1 := 86) (lo1 := [some (.ref 47), some (.int (nI h)), some (.int y), some (.int z), some (.int (nI k))]) (st1 := [.int ((nI k) + 3), .ref 48, .int (nI k), .ref 48]) (μ1 := μ1) (vc := True) rfl (by decide +kernel) rfl trivial ?_
    rw [(show ((nI k) + 3 : Int32) = nI ((k) + 3) from by simp only [nI, Int32.ofNat_add, Int32.ofNat_mul]; rfl).trans (congrArg nI (show (k) + 3 = 3 + k from by omega))]
    refine pm_bl [(.iaload, 1, 0, 0, 0), (.iastore, 1, 0, 0, 0), (.iinc 4 1, 3, 4, 0, 1), (.goto (-27), 3, 64, 0, 0)] (pc1 := 64) (lo1 := [some (.ref 47), some (.int (nI h)), some (.int y), some (.int z), some (.int ((nI k) + 1))]) (st1 := []) (μ1 := pm_set μ1 48 ((nI k).toNatClampNeg) (μ1.1 48 (nI (3 + k)).toNatClampNeg)) (vc := vp_in (nI (3 + k)) 620 ∧ vp_in (nI k) 620 ∧ True) rfl (by decide +kernel) rfl ⟨(vp_in_nI (by omega) (by omega)), (vp_in_nI (by omega) (by omega)), trivial⟩ ?_
    try rw [nI_clamp (n := k) (by omega)]
    rw [nI_1]; refine ih (k + 1) (by omega) (by omega) _ ?_
    try rw [nI_clamp (n := k) (by omega)]
    try rw [nI_clamp (n := 3 + k) (by omega)]
    rw [hm, Nat.add_comm 3 k]
    exact lr_shk_s h2
set_option maxHeartbeats 4000000 in
set_option maxRecDepth 100000 in
theorem c_X10_leave_full {g : Nat → Int32} {h c : Nat} {y z : Int32} (μ : pm_Mm) (hM : μ.1 48 = g) (hG : lr_G g) (hp : μ.1 47 5 = nI c) (hc8 : c ≤ 8) (hh : h < lr_n g 35) (hl : lr_dys y z = true) (hn : lr_n g 228 = 20) : pm_CT mi_X10_leave [.ref 47, .int (nI h), .int y, .int z] μ (fun v μ2 => v = some (.int (nI 20)) ∧ lr_fm (lr_chg (pm_set μ 47 7 0) 48) μ2 ∧ μ2.1 48 = lr_gabs2 g (nI h) y z) pm_NX := by
  refine pm_CT_of (lo := [some (.ref 47), some (.int (nI h)), some (.int y), some (.int z), none]) (by decide +kernel) rfl rfl (by intro v hv; simp at hv; rcases hv with rfl | rfl | rfl | rfl <;> rfl) (Nat.le_of_ble_eq_true rfl) rfl ?_
  have hm1 := lr_mh hG; have hm2 := lr_mw hG; have hm3 := lr_mp hG; have hm4 := lr_mr hG; have hm5 := lr_ma hG; have hm6 := lr_ml hG
  refine pm_bl [(.aload_n 0, 1, 0, 0, 0), (.aload_n 0, 1, 0, 0, 0), (.iload_n 1, 1, 1, 0, 0)] (pc1 := 3) (lo1 := [some (.ref 47), some (.int (nI h)), some (.int y), some (.int z), none]) (st1 := [.int (nI h), .ref 47, .ref 47]) (μ1 := μ) (vc := True) rfl (by decide +kernel) rfl trivial ?_
  refine pm_callV2 mi_X10_isPerson (ix := 102) (b := 47) (ci := 10) (kc2 := 0) (ks2 := 0) (As := [.int (nI h)]) (rest := [.ref 47]) (c_X10_isPerson (nI h) μ hM hG) cal_X10_isPerson lk10_102 (by decide +kernel) rfl (by decide +kernel) rfl rfl rfl rfl (Nat.le_of_ble_eq_true rfl) (by decide) (by decide) (fun _ _ h9 => h9.elim) ?_
  rintro _ _ ⟨rfl, h9⟩; rw [h9]; clear h9
  show pm_V _ _ _ _ 6 _ [.int (lr_b (lr_be (nI h) (nI (lr_n g 35)))), .ref 47] _
  refine pm_ifb_ne (off := 7) 13 (by decide +kernel) (by decide) (fun (h6 : (lr_be (nI h) (nI (lr_n g 35))) = true) => ?_) (fun (h9 : (lr_be (nI h) (nI (lr_n g 35))) = false) => absurd (h9.symm.trans (lr_be_1 hh (by omega))) (by decide))
  refine pm_bl [(.iload_n 2, 1, 2, 0, 0), (.iload_n 3, 1, 3, 0, 0)] (pc1 := 15) (lo1 := [some (.ref 47), some (.int (nI h)), some (.int y), some (.int z), none]) (st1 := [.int z, .int y, .ref 47]) (μ1 := μ) (vc := True) rfl (by decide +kernel) rfl trivial ?_
  refine pm_callS2 mi_X10_areDays (ix := 105) (kc2 := 0) (ks2 := 0) (As := [.int y, .int z]) (rest := [.ref 47]) (c_X10_areDays y z μ) cal_X10_areDays lk10_105 (by decide +kernel) rfl (by decide +kernel) rfl rfl (Nat.le_of_ble_eq_true rfl) (by decide) (by decide) (fun _ _ h9 => h9.elim) ?_
  rintro _ _ ⟨rfl, h9⟩; rw [h9]; clear h9
  show pm_V _ _ _ _ 18 _ [.int (lr_b (lr_dys y z)), .ref 47] _
  refine pm_ifb_eq (off := 7) 25 (by decide +kernel) (by decide) (fun (h9 : (lr_dys y z) = false) => absurd (hl.symm.trans h9) (by decide)) (fun (h18 : (lr_dys y z) = true) => ?_)
  refine pm_bl [(.iconst 0, 1, 0, 0, 0), (.goto 4, 3, 26, 0, 0), (.putfield 35, 3, 10, 7, 0), (.aload_n 0, 1, 0, 0, 0), (.getfield 35, 3, 10, 7, 0)] (pc1 := 33) (lo1 := [some (.ref 47), some (.int (nI h)), some (.int y), some (.int z), none]) (st1 := [.int ((pm_set μ 47 7 0).1 47 7)]) (μ1 := pm_set μ 47 7 0) (vc := True) rfl (by decide +kernel) rfl trivial ?_
  rw [show (pm_set μ 47 7 0).1 47 7 = 0 from by rw [pm_set_hit] <;> omega]
  refine pm_if_le (off := 5) 38 (by decide +kernel) (by decide) (fun _ => ?_) (fun h9 => absurd h9 (by decide))
  refine pm_bl [(.aload_n 0, 1, 0, 0, 0), (.aload_n 0, 1, 0, 0, 0), (.getfield 7, 3, 10, 0, 0)] (pc1 := 43) (lo1 := [some (.ref 47), some (.int (nI h)), some (.int y), some (.int z), none]) (st1 := [.ref 48, .ref 47]) (μ1 := pm_set μ 47 7 0) (vc := True) rfl (by decide +kernel) rfl trivial ?_
  refine pm_callV2 mi_X10_changes (ix := 66) (b := 47) (ci := 10) (kc2 := 0) (ks2 := 0) (As := [.ref 48]) (rest := []) (c_X10_changes_48 (c := c) (pm_set μ 47 7 0) (by first | exact hp | (rw [pm_set_miss (Or.inr (by decide))]; exact hp)) hc8) cal_X10_changes lk10_66 (by decide +kernel) rfl (by decide +kernel) rfl rfl rfl rfl (Nat.le_of_ble_eq_true rfl) (by decide) (by decide) (fun _ _ h9 => h9.elim) ?_
  rintro _ μ1 ⟨rfl, hq⟩
  have hM1 : μ1.1 48 = g := by rw [hq, lr_chg_off (by decide) (by decide)]; first | exact hM | (rw [pm_set_off (by decide)]; exact hM)
  show pm_V _ _ _ _ 46 _ [] _
  refine pm_bl [(.aload_n 0, 1, 0, 0, 0), (.getfield 7, 3, 10, 0, 0), (.sipush 228, 3, 0, 0, 228), (.iaload, 1, 0, 0, 0)] (pc1 := 54) (lo1 := [some (.ref 47), some (.int (nI h)), some (.int y), some (.int z), none]) (st1 := [.int (μ1.1 48 (228 : Int32).toNatClampNeg)]) (μ1 := μ1) (vc := vp_in 228 620 ∧ True) rfl (by decide +kernel) rfl ⟨(by unfold vp_in; decide), trivial⟩ ?_
  rw [show (228 : Int32).toNatClampNeg = 228 from by decide, hM1, lr_ga hG]
  refine pm_bl [(.bipush 20, 2, 0, 0, 20)] (pc1 := 56) (lo1 := [some (.ref 47), some (.int (nI h)), some (.int y), some (.int z), none]) (st1 := [.int 20, .int (nI (lr_n g 228))]) (μ1 := μ1) (vc := True) rfl (by decide +kernel) rfl trivial ?_
  refine pm_icmp_ne (off := 50) 106 (by decide +kernel) (by decide) (fun (h9 : ¬ (nI (lr_n g 228)) = 20) => absurd (by rw [hn]; decide) h9) (fun (h56 : (nI (lr_n g 228)) = 20) => ?_)
  refine pm_bl [(.sipush 229, 3, 0, 0, 229), (.istore 4, 2, 4, 0, 0)] (pc1 := 64) (lo1 := [some (.ref 47), some (.int (nI h)), some (.int y), some (.int z), some (.int 229)]) (st1 := []) (μ1 := μ1) (vc := True) rfl (by decide +kernel) rfl trivial ?_
  exact l_X10_leave _ y z _ hM1 (by rw [lr_ga hG, hn]) (fun μ2 hf hr => ⟨rfl, by rw [← hq]; exact hf, hr⟩) 57 229 rfl (by omega) _ (by rw [lr_shk_0, ← hM1, pm_row_self])
