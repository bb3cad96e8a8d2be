/-! the model: the arrival of a text -/
theorem lr_glet_o {g : Nat → Int32} {pe we re dy : Int32} {x : Nat} (h1 : x ≠ 289) (h2 : x < 290 + 11 * lr_n g 289 ∨ 301 + 11 * lr_n g 289 ≤ x) : lr_glet g pe we re dy x = g x := by
  unfold lr_glet; rw [upd_ne (by omega), upd_ne (by omega), upd_ne (by omega), upd_ne (by omega), upd_ne (by omega), upd_ne (by omega), upd_ne (by omega), upd_ne (by omega), upd_ne (by omega), upd_ne (by omega), upd_ne (by omega), upd_ne (by omega)]
theorem lr_glet_n {g : Nat → Int32} {pe we re dy : Int32} (hn : lr_n g 289 < 30) : lr_n (lr_glet g pe we re dy) 289 = lr_n g 289 + 1 := by
  show (lr_glet g pe we re dy 289).toNatClampNeg = _
  rw [show lr_glet g pe we re dy 289 = nI (lr_n g 289 + 1) from by unfold lr_glet; rw [upd_eq], nI_clamp (by omega)]
theorem lr_glet_0 {g : Nat → Int32} {pe we re dy : Int32} : lr_glet g pe we re dy (290 + 11 * lr_n g 289) = pe := by unfold lr_glet; rw [upd_ne (by omega), upd_ne (by omega), upd_ne (by omega), upd_ne (by omega), upd_ne (by omega), upd_ne (by omega), upd_ne (by omega), upd_ne (by omega), upd_ne (by omega), upd_ne (by omega), upd_ne (by omega), upd_eq]
theorem lr_glet_1 {g : Nat → Int32} {pe we re dy : Int32} : lr_glet g pe we re dy (291 + 11 * lr_n g 289) = we := by unfold lr_glet; rw [upd_ne (by omega), upd_ne (by omega), upd_ne (by omega), upd_ne (by omega), upd_ne (by omega), upd_ne (by omega), upd_ne (by omega), upd_ne (by omega), upd_ne (by omega), upd_ne (by omega), upd_eq]
theorem lr_glet_2 {g : Nat → Int32} {pe we re dy : Int32} : lr_glet g pe we re dy (292 + 11 * lr_n g 289) = re := by unfold lr_glet; rw [upd_ne (by omega), upd_ne (by omega), upd_ne (by omega), upd_ne (by omega), upd_ne (by omega), upd_ne (by omega), upd_ne (by omega), upd_ne (by omega), upd_ne (by omega), upd_eq]
theorem lr_glet_3 {g : Nat → Int32} {pe we re dy : Int32} : lr_glet g pe we re dy (293 + 11 * lr_n g 289) = dy := by unfold lr_glet; rw [upd_ne (by omega), upd_ne (by omega), upd_ne (by omega), upd_ne (by omega), upd_ne (by omega), upd_ne (by omega), upd_ne (by omega), upd_ne (by omega), upd_eq]
theorem lr_glet_4 {g : Nat → Int32} {pe we re dy : Int32} : lr_glet g pe we re dy (294 + 11 * lr_n g 289) = 0 := by unfold lr_glet; rw [upd_ne (by omega), upd_ne (by omega), upd_ne (by omega), upd_ne (by omega), upd_ne (by omega), upd_ne (by omega), upd_ne (by omega), upd_eq]
theorem lr_glet_5 {g : Nat → Int32} {pe we re dy : Int32} : lr_glet g pe we re dy (295 + 11 * lr_n g 289) = (-1) := by unfold lr_glet; rw [upd_ne (by omega), upd_ne (by omega), upd_ne (by omega), upd_ne (by omega), upd_ne (by omega), upd_ne (by omega), upd_eq]
theorem lr_glet_6 {g : Nat → Int32} {pe we re dy : Int32} : lr_glet g pe we re dy (296 + 11 * lr_n g 289) = (-1) := by unfold lr_glet; rw [upd_ne (by omega), upd_ne (by omega), upd_ne (by omega), upd_ne (by omega), upd_ne (by omega), upd_eq]
theorem lr_glet_7 {g : Nat → Int32} {pe we re dy : Int32} : lr_glet g pe we re dy (297 + 11 * lr_n g 289) = 0 := by unfold lr_glet; rw [upd_ne (by omega), upd_ne (by omega), upd_ne (by omega), upd_ne (by omega), upd_eq]
theorem lr_glet_8 {g : Nat → Int32} {pe we re dy : Int32} : lr_glet g pe we re dy (298 + 11 * lr_n g 289) = (-1) := by unfold lr_glet; rw [upd_ne (by omega), upd_ne (by omega), upd_ne (by omega), upd_eq]
theorem lr_glet_9 {g : Nat → Int32} {pe we re dy : Int32} : lr_glet g pe we re dy (299 + 11 * lr_n g 289) = (-1) := by unfold lr_glet; rw [upd_ne (by omega), upd_ne (by omega), upd_eq]
theorem lr_glet_10 {g : Nat → Int32} {pe we re dy : Int32} : lr_glet g pe we re dy (300 + 11 * lr_n g 289) = (-1) := by unfold lr_glet; rw [upd_ne (by omega), upd_eq]
theorem lr_G.glet {g : Nat → Int32} (hG : lr_G g) (hn : lr_n g 289 < 30) {p wt r : Nat} (hp : p < lr_n g 35) (w1 : 1 ≤ wt) (w9 : wt ≤ 9) (hr : r ≤ 1) : lr_G (lr_glet g (nI p) (nI wt) (nI r) (g 0)) := by
  have hn1 := lr_glet_n (g := g) (pe := nI p) (we := nI wt) (re := nI r) (dy := g 0) hn
  have hx : ∀ x, x < 289 → lr_n (lr_glet g (nI p) (nI wt) (nI r) (g 0)) x = lr_n g x := fun x h => by unfold lr_n; rw [lr_glet_o (by omega) (by omega)]
  refine hG.lt (fun x h1 h2 => lr_glet_o (by omega) (by omega)) ?_ ?_ ?_ (fun i hi => ?_)
  · rw [hx 0 (by omega), lr_glet_o (by omega) (by omega)]; exact hG.1
  · rw [hx 1 (by omega), lr_glet_o (by omega) (by omega)]; exact hG.2.1
  · rw [hn1]; exact ⟨by unfold lr_glet; rw [upd_eq], by omega⟩
  · rw [hn1] at hi
    by_cases e : i = lr_n g 289
    · subst e
      unfold lr_Lc
      rw [hx 35 (by omega), hx 0 (by omega), lr_glet_0, lr_glet_1, lr_glet_2, lr_glet_3, lr_glet_4, lr_glet_5, lr_glet_6, lr_glet_7, lr_glet_8, lr_glet_9, lr_glet_10]
      exact ⟨⟨p, rfl, hp⟩, ⟨wt, rfl, w1, w9⟩, ⟨r, rfl, hr⟩, ⟨lr_n g 0, lr_gT hG, Nat.le_refl _⟩, ⟨0, rfl, by omega⟩, ⟨0, rfl, by omega, fun e => absurd rfl e⟩, ⟨0, rfl, by omega, fun e => absurd e (by decide)⟩, ⟨0, rfl, by omega⟩, ⟨0, rfl, by omega, fun e => absurd e (by decide)⟩, ⟨0, rfl, by omega, fun e => absurd e (by decide)⟩, ⟨0, rfl, by omega⟩⟩
    · exact (lr_Lc_of hG (by omega)).eq (fun c hc => lr_glet_o (by omega) (by omega)) (hx 35 (by omega)) (by rw [hx 0 (by omega)]; exact Nat.le_refl _)
/-- why a text's letters are refused: 0, they are not -/
def lr_why (np : Nat) : Nat → List (Int32 × Int32 × Int32) → Int32
  | _, [] => 0
  | c, x :: L => if c = 30 then 1 else if lr_be x.1 (nI np) = false then 3 else lr_why np (c + 1) L
def lr_adds : (Nat → Int32) → List (Int32 × Int32 × Int32) → Nat → Int32
  | g, [] => g
  | g, x :: L => lr_adds (lr_glet g x.1 x.2.1 x.2.2 (g 0)) L
theorem lr_glet_ok {g : Nat → Int32} (hG : lr_G g) (hn : lr_n g 289 < 30) {x : Int32 × Int32 × Int32} (hb : lr_be x.1 (nI (lr_n g 35)) = true) (hk : lr_Lk x) : lr_G (lr_glet g x.1 x.2.1 x.2.2 (g 0)) := by
  have m2 := lr_mp hG
  obtain ⟨p, hp, e⟩ := lr_be_t (by omega) hb
  obtain ⟨⟨wt, ew, w1, w9⟩, hr⟩ := hk
  rw [e, ew]
  rcases hr with r | r
  · rw [r]; exact hG.glet hn hp w1 w9 (r := 0) (by omega)
  · rw [r]; exact hG.glet hn hp w1 w9 (r := 1) (by omega)
/-- the model's answer to a text without a fault -/
def lr_Aw (μ0 : pm_Mm) (g1 : Nat → Int32) (K : Nat) (why : Int32) (L : List (Int32 × Int32 × Int32)) (v : Option Value) (μ2 : pm_Mm) : Prop := (why = 0 → v = some (.int (nI K)) ∧ ∃ M, lr_fsp μ0 M ∧ M.1 48 = lr_adds g1 L ∧ μ2 = lr_chg M 50) ∧ (¬ why = 0 → v = some (.int 0) ∧ ∃ M, lr_fs μ0 M ∧ μ2 = pm_set (pm_set M 47 6 why) 47 7 2)
set_option maxHeartbeats 4000000 in
set_option maxRecDepth 100000 in
theorem e_X10_arrive {g : Nat → Int32} {c k d : Nat} {μ0 : pm_Mm} (P : Option Value → pm_Mm → Prop) (μ : pm_Mm) (hM : μ.1 48 = g) (hG : lr_G g) (hf : lr_fsp μ0 μ) (h15 : μ.1 47 15 = nI (k + d)) (hk13 : k + d ≤ 13) (hd : d = 0) (hp : μ.1 47 5 = nI c) (hc8 : c ≤ 8) (K : P (some (.int (nI k))) (lr_chg μ 50)) : pm_V mi_X10_arrive (P, pm_NX, fun _ _ _ => True) 0 0 56 [some (.ref 47), some (.int 1), some (.int (nI k)), none] [] μ := by
  subst hd
  rw [Nat.add_zero] at h15
  refine pm_bl [(.iload_n 2, 1, 2, 0, 0), (.aload_n 0, 1, 0, 0, 0), (.getfield 188, 3, 10, 15, 0)] (pc1 := 61) (lo1 := [some (.ref 47), some (.int 1), some (.int (nI k)), none]) (st1 := [.int (μ.1 47 15), .int (nI k)]) (μ1 := μ) (vc := True) rfl (by decide +kernel) rfl trivial ?_
  rw [h15]
  refine pm_icmp_ge (off := 103) 164 (by decide +kernel) (by decide) (fun (h61 : (nI k) ≤ (nI k)) => ?_) (fun (h9 : ¬ ((nI k) ≤ (nI k))) => absurd (nI_le (Nat.le_refl k) (by omega)) h9)
  refine pm_bl [(.aload_n 0, 1, 0, 0, 0), (.aload_n 0, 1, 0, 0, 0), (.getfield 16, 3, 10, 2, 0)] (pc1 := 169) (lo1 := [some (.ref 47), some (.int 1), some (.int (nI k)), none]) (st1 := [.ref 50, .ref 47]) (μ1 := μ) (vc := True) rfl (by decide +kernel) rfl trivial ?_
  refine pm_callV2 mi_X10_changes (ix := 66) (b := 47) (ci := 10) (kc2 := 0) (ks2 := 0) (As := [.ref 50]) (rest := []) (c_X10_changes_50 (c := c) μ hp hc8) cal_X10_changes lk10_66 (by decide +kernel) rfl (by decide +kernel) rfl rfl rfl rfl (Nat.le_of_ble_eq_true rfl) (by decide) (by decide) (fun _ _ h9 => h9.elim) ?_
  rintro _ μ1 ⟨rfl, hq⟩
  have hM1 : μ1.1 48 = g := by rw [hq, lr_chg_off (by decide) (by decide)]; exact hM
  show pm_V _ _ _ _ 172 _ [] _
  refine pm_bl [(.aload_n 0, 1, 0, 0, 0), (.getfield 188, 3, 10, 15, 0)] (pc1 := 176) (lo1 := [some (.ref 47), some (.int 1), some (.int (nI k)), none]) (st1 := [.int (μ1.1 47 15)]) (μ1 := μ1) (vc := True) rfl (by decide +kernel) rfl trivial ?_
  rw [show μ1.1 47 15 = nI k from by rw [hq, lr_chg_47 (by decide)]; exact h15]
  exact pm_iret (ty := .int) rfl rfl (by decide) (by decide) (by decide +kernel) (by rw [hq]; exact K)
set_option maxHeartbeats 4000000 in
set_option maxRecDepth 100000 in
theorem r1_X10_arrive {g : Nat → Int32} {c k d : Nat} {μ0 : pm_Mm} (P : Option Value → pm_Mm → Prop) (μ : pm_Mm) (hM : μ.1 48 = g) (hG : lr_G g) (hf : lr_fsp μ0 μ) (h15 : μ.1 47 15 = nI (k + d)) (hk13 : k + d ≤ 13) {x : Int32 × Int32 × Int32} (hd : 0 < d) (ht0 : μ.1 54 (3 * k) = x.1) (ht1 : μ.1 54 (3 * k + 1) = x.2.1) (ht2 : μ.1 54 (3 * k + 2) = x.2.2) (hn : lr_n g 289 = 30) (K : P (some (.int 0)) (pm_set (pm_set (pm_row μ 48 (lr_cpy (μ.1 50) (μ.1 48) 0 0 620)) 47 6 1) 47 7 2)) : pm_V mi_X10_arrive (P, pm_NX, fun _ _ _ => True) 0 0 56 [some (.ref 47), some (.int 1), some (.int (nI k)), none] [] μ := by
  refine pm_bl [(.iload_n 2, 1, 2, 0, 0), (.aload_n 0, 1, 0, 0, 0), (.getfield 188, 3, 10, 15, 0)] (pc1 := 61) (lo1 := [some (.ref 47), some (.int 1), some (.int (nI k)), none]) (st1 := [.int (μ.1 47 15), .int (nI k)]) (μ1 := μ) (vc := True) rfl (by decide +kernel) rfl trivial ?_
  rw [h15]
  refine pm_icmp_ge (off := 103) 164 (by decide +kernel) (by decide) (fun (h9 : (nI (k + d)) ≤ (nI k)) => absurd h9 (nI_ge (by omega) (by omega))) (fun (h61 : ¬ ((nI (k + d)) ≤ (nI k))) => ?_)
  refine pm_bl [(.aload_n 0, 1, 0, 0, 0), (.getfield 7, 3, 10, 0, 0), (.sipush 289, 3, 0, 0, 289), (.iaload, 1, 0, 0, 0)] (pc1 := 72) (lo1 := [some (.ref 47), some (.int 1), some (.int (nI k)), none]) (st1 := [.int (μ.1 48 (289 : Int32).toNatClampNeg)]) (μ1 := μ) (vc := vp_in 289 620 ∧ True) rfl (by decide +kernel) rfl ⟨(by unfold vp_in; decide), trivial⟩ ?_
  rw [show (289 : Int32).toNatClampNeg = 289 from by decide, hM, lr_gl hG]
  refine pm_bl [(.bipush 30, 2, 0, 0, 30)] (pc1 := 74) (lo1 := [some (.ref 47), some (.int 1), some (.int (nI k)), none]) (st1 := [.int 30, .int (nI (lr_n g 289))]) (μ1 := μ) (vc := True) rfl (by decide +kernel) rfl trivial ?_
  refine pm_icmp_ne (off := 7) 81 (by decide +kernel) (by decide) (fun (h9 : ¬ (nI (lr_n g 289)) = 30) => absurd (by rw [hn]; decide) h9) (fun (h74 : (nI (lr_n g 289)) = 30) => ?_)
  refine pm_bl [(.iconst 1, 1, 0, 0, 1), (.goto 23, 3, 101, 0, 0), (.istore_n 3, 1, 3, 0, 0), (.iload_n 3, 1, 3, 0, 0)] (pc1 := 103) (lo1 := [some (.ref 47), some (.int 1), some (.int (nI k)), some (.int 1)]) (st1 := [.int 1]) (μ1 := μ) (vc := True) rfl (by decide +kernel) rfl trivial ?_
  refine pm_if_le (off := 23) 126 (by decide +kernel) (by decide) (fun h9 => absurd h9 (by decide)) (fun _ => ?_)
  refine pm_bl [(.aload_n 0, 1, 0, 0, 0), (.getfield 16, 3, 10, 2, 0), (.iconst 0, 1, 0, 0, 0), (.aload_n 0, 1, 0, 0, 0), (.getfield 7, 3, 10, 0, 0), (.iconst 0, 1, 0, 0, 0)] (pc1 := 116) (lo1 := [some (.ref 47), some (.int 1), some (.int (nI k)), some (.int 1)]) (st1 := [.int 0, .ref 48, .int 0, .ref 50]) (μ1 := μ) (vc := True) rfl (by decide +kernel) rfl trivial ?_
  refine pm_callS2 mi_X10_copies (ix := 52) (kc2 := 0) (ks2 := 0) (As := [.ref 50, .int 0, .ref 48, .int 0]) (rest := []) (c_X10_cp_50_48 (i := 0) (j := 0) μ rfl rfl (by omega) (by omega)) cal_X10_copies lk10_52 (by decide +kernel) rfl (by decide +kernel) rfl rfl (Nat.le_of_ble_eq_true rfl) (by decide) (by decide) (fun _ _ h9 => h9.elim) ?_
  rintro _ _ ⟨rfl, h9⟩; rw [h9]; clear h9
  show pm_V _ _ _ _ 119 _ [] _
  refine pm_bl [(.aload_n 0, 1, 0, 0, 0), (.iconst 2, 1, 0, 0, 2), (.iload_n 3, 1, 3, 0, 0)] (pc1 := 122) (lo1 := [some (.ref 47), some (.int 1), some (.int (nI k)), some (.int 1)]) (st1 := [.int 1, .int 2, .ref 47]) (μ1 := pm_row μ 48 (lr_cpy (μ.1 50) (μ.1 48) 0 0 620)) (vc := True) rfl (by decide +kernel) rfl trivial ?_
  refine pm_callV2 mi_X10_refuses (ix := 94) (b := 47) (ci := 10) (kc2 := 0) (ks2 := 0) (As := [.int 2, .int 1]) (rest := []) (c_X10_refuses 2 1 (pm_row μ 48 (lr_cpy (μ.1 50) (μ.1 48) 0 0 620))) cal_X10_refuses lk10_94 (by decide +kernel) rfl (by decide +kernel) rfl rfl rfl rfl (Nat.le_of_ble_eq_true rfl) (by decide) (by decide) (fun _ _ h9 => h9.elim) ?_
  rintro _ _ ⟨rfl, h9⟩; rw [h9]; clear h9
  show pm_V _ _ _ _ 125 _ [.int 0] _
  exact pm_iret (ty := .int) rfl rfl (by decide) (by decide) (by decide +kernel) K
set_option maxHeartbeats 4000000 in
set_option maxRecDepth 100000 in
theorem r3_X10_arrive {g : Nat → Int32} {c k d : Nat} {μ0 : pm_Mm} (P : Option Value → pm_Mm → Prop) (μ : pm_Mm) (hM : μ.1 48 = g) (hG : lr_G g) (hf : lr_fsp μ0 μ) (h15 : μ.1 47 15 = nI (k + d)) (hk13 : k + d ≤ 13) {x : Int32 × Int32 × Int32} (hd : 0 < d) (ht0 : μ.1 54 (3 * k) = x.1) (ht1 : μ.1 54 (3 * k + 1) = x.2.1) (ht2 : μ.1 54 (3 * k + 2) = x.2.2) (hn : lr_n g 289 < 30) (hb : lr_be x.1 (nI (lr_n g 35)) = false) (K : P (some (.int 0)) (pm_set (pm_set (pm_row μ 48 (lr_cpy (μ.1 50) (μ.1 48) 0 0 620)) 47 6 3) 47 7 2)) : pm_V mi_X10_arrive (P, pm_NX, fun _ _ _ => True) 0 0 56 [some (.ref 47), some (.int 1), some (.int (nI k)), none] [] μ := by
  refine pm_bl [(.iload_n 2, 1, 2, 0, 0), (.aload_n 0, 1, 0, 0, 0), (.getfield 188, 3, 10, 15, 0)] (pc1 := 61) (lo1 := [some (.ref 47), some (.int 1), some (.int (nI k)), none]) (st1 := [.int (μ.1 47 15), .int (nI k)]) (μ1 := μ) (vc := True) rfl (by decide +kernel) rfl trivial ?_
  rw [h15]
  refine pm_icmp_ge (off := 103) 164 (by decide +kernel) (by decide) (fun (h9 : (nI (k + d)) ≤ (nI k)) => absurd h9 (nI_ge (by omega) (by omega))) (fun (h61 : ¬ ((nI (k + d)) ≤ (nI k))) => ?_)
  refine pm_bl [(.aload_n 0, 1, 0, 0, 0), (.getfield 7, 3, 10, 0, 0), (.sipush 289, 3, 0, 0, 289), (.iaload, 1, 0, 0, 0)] (pc1 := 72) (lo1 := [some (.ref 47), some (.int 1), some (.int (nI k)), none]) (st1 := [.int (μ.1 48 (289 : Int32).toNatClampNeg)]) (μ1 := μ) (vc := vp_in 289 620 ∧ True) rfl (by decide +kernel) rfl ⟨(by unfold vp_in; decide), trivial⟩ ?_
  rw [show (289 : Int32).toNatClampNeg = 289 from by decide, hM, lr_gl hG]
  refine pm_bl [(.bipush 30, 2, 0, 0, 30)] (pc1 := 74) (lo1 := [some (.ref 47), some (.int 1), some (.int (nI k)), none]) (st1 := [.int 30, .int (nI (lr_n g 289))]) (μ1 := μ) (vc := True) rfl (by decide +kernel) rfl trivial ?_
  refine pm_icmp_ne (off := 7) 81 (by decide +kernel) (by decide) (fun (h74 : ¬ (nI (lr_n g 289)) = 30) => ?_) (fun (h9 : (nI (lr_n g 289)) = 30) => absurd ((nI_eq (b := 30) (by omega) (by omega)).mp h9) (by omega))
  refine pm_bl [(.aload_n 0, 1, 0, 0, 0), (.aload_n 0, 1, 0, 0, 0), (.getfield 32, 3, 10, 14, 0), (.iconst 3, 1, 0, 0, 3), (.iload_n 2, 1, 2, 0, 0), (.imul, 1, 0, 0, 0)] (pc1 := 89) (lo1 := [some (.ref 47), some (.int 1), some (.int (nI k)), none]) (st1 := [.int (3 * (nI k)), .ref 54, .ref 47]) (μ1 := μ) (vc := True) rfl (by decide +kernel) rfl trivial ?_
  rw [(show (3 * (nI k) : Int32) = nI (3 * (k)) from by simp only [nI, Int32.ofNat_add, Int32.ofNat_mul]; rfl).trans (congrArg nI (show 3 * (k) = 3 * k from by omega))]
  refine pm_bl [(.iaload, 1, 0, 0, 0)] (pc1 := 90) (lo1 := [some (.ref 47), some (.int 1), some (.int (nI k)), none]) (st1 := [.int (μ.1 54 (nI (3 * k)).toNatClampNeg), .ref 47]) (μ1 := μ) (vc := vp_in (nI (3 * k)) 48 ∧ True) rfl (by decide +kernel) rfl ⟨(vp_in_nI (by omega) (by omega)), trivial⟩ ?_
  rw [nI_clamp (n := 3 * k) (by omega), ht0]
  refine pm_callV2 mi_X10_isPerson (ix := 102) (b := 47) (ci := 10) (kc2 := 0) (ks2 := 0) (As := [.int x.1]) (rest := []) (c_X10_isPerson x.1 μ hM hG) cal_X10_isPerson lk10_102 (by decide +kernel) rfl (by decide +kernel) rfl rfl rfl rfl (Nat.le_of_ble_eq_true rfl) (by decide) (by decide) (fun _ _ h9 => h9.elim) ?_
  rintro _ _ ⟨rfl, h9⟩; rw [h9]; clear h9
  show pm_V _ _ _ _ 93 _ [.int (lr_b (lr_be x.1 (nI (lr_n g 35))))] _
  refine pm_ifb_eq (off := 7) 100 (by decide +kernel) (by decide) (fun (h93 : (lr_be x.1 (nI (lr_n g 35))) = false) => ?_) (fun (h9 : (lr_be x.1 (nI (lr_n g 35))) = true) => absurd (hb.symm.trans h9) (by decide))
  refine pm_bl [(.iconst 3, 1, 0, 0, 3), (.istore_n 3, 1, 3, 0, 0), (.iload_n 3, 1, 3, 0, 0)] (pc1 := 103) (lo1 := [some (.ref 47), some (.int 1), some (.int (nI k)), some (.int 3)]) (st1 := [.int 3]) (μ1 := μ) (vc := True) rfl (by decide +kernel) rfl trivial ?_
  refine pm_if_le (off := 23) 126 (by decide +kernel) (by decide) (fun h9 => absurd h9 (by decide)) (fun _ => ?_)
  refine pm_bl [(.aload_n 0, 1, 0, 0, 0), (.getfield 16, 3, 10, 2, 0), (.iconst 0, 1, 0, 0, 0), (.aload_n 0, 1, 0, 0, 0), (.getfield 7, 3, 10, 0, 0), (.iconst 0, 1, 0, 0, 0)] (pc1 := 116) (lo1 := [some (.ref 47), some (.int 1), some (.int (nI k)), some (.int 3)]) (st1 := [.int 0, .ref 48, .int 0, .ref 50]) (μ1 := μ) (vc := True) rfl (by decide +kernel) rfl trivial ?_
  refine pm_callS2 mi_X10_copies (ix := 52) (kc2 := 0) (ks2 := 0) (As := [.ref 50, .int 0, .ref 48, .int 0]) (rest := []) (c_X10_cp_50_48 (i := 0) (j := 0) μ rfl rfl (by omega) (by omega)) cal_X10_copies lk10_52 (by decide +kernel) rfl (by decide +kernel) rfl rfl (Nat.le_of_ble_eq_true rfl) (by decide) (by decide) (fun _ _ h9 => h9.elim) ?_
  rintro _ _ ⟨rfl, h9⟩; rw [h9]; clear h9
  show pm_V _ _ _ _ 119 _ [] _
  refine pm_bl [(.aload_n 0, 1, 0, 0, 0), (.iconst 2, 1, 0, 0, 2), (.iload_n 3, 1, 3, 0, 0)] (pc1 := 122) (lo1 := [some (.ref 47), some (.int 1), some (.int (nI k)), some (.int 3)]) (st1 := [.int 3, .int 2, .ref 47]) (μ1 := pm_row μ 48 (lr_cpy (μ.1 50) (μ.1 48) 0 0 620)) (vc := True) rfl (by decide +kernel) rfl trivial ?_
  refine pm_callV2 mi_X10_refuses (ix := 94) (b := 47) (ci := 10) (kc2 := 0) (ks2 := 0) (As := [.int 2, .int 3]) (rest := []) (c_X10_refuses 2 3 (pm_row μ 48 (lr_cpy (μ.1 50) (μ.1 48) 0 0 620))) cal_X10_refuses lk10_94 (by decide +kernel) rfl (by decide +kernel) rfl rfl rfl rfl (Nat.le_of_ble_eq_true rfl) (by decide) (by decide) (fun _ _ h9 => h9.elim) ?_
  rintro _ _ ⟨rfl, h9⟩; rw [h9]; clear h9
  show pm_V _ _ _ _ 125 _ [.int 0] _
  exact pm_iret (ty := .int) rfl rfl (by decide) (by decide) (by decide +kernel) K
set_option maxHeartbeats 4000000 in
set_option maxRecDepth 100000 in
theorem s_X10_arrive {g : Nat → Int32} {c k d : Nat} {μ0 : pm_Mm} (P : Option Value → pm_Mm → Prop) (μ : pm_Mm) (hM : μ.1 48 = g) (hG : lr_G g) (hf : lr_fsp μ0 μ) (h15 : μ.1 47 15 = nI (k + d)) (hk13 : k + d ≤ 13) {x : Int32 × Int32 × Int32} (hd : 0 < d) (ht0 : μ.1 54 (3 * k) = x.1) (ht1 : μ.1 54 (3 * k + 1) = x.2.1) (ht2 : μ.1 54 (3 * k + 2) = x.2.2) (hn : lr_n g 289 < 30) (hb : lr_be x.1 (nI (lr_n g 35)) = true) (K : ∀ μ2, lr_fm μ μ2 → μ2.1 48 = lr_glet g x.1 x.2.1 x.2.2 (g 0) → pm_V mi_X10_arrive (P, pm_NX, fun _ _ _ => True) 0 0 56 [some (.ref 47), some (.int 1), some (.int (nI (k + 1))), none] [] μ2) : pm_V mi_X10_arrive (P, pm_NX, fun _ _ _ => True) 0 0 56 [some (.ref 47), some (.int 1), some (.int (nI k)), none] [] μ := by
  refine pm_bl [(.iload_n 2, 1, 2, 0, 0), (.aload_n 0, 1, 0, 0, 0), (.getfield 188, 3, 10, 15, 0)] (pc1 := 61) (lo1 := [some (.ref 47), some (.int 1), some (.int (nI k)), none]) (st1 := [.int (μ.1 47 15), .int (nI k)]) (μ1 := μ) (vc := True) rfl (by decide +kernel) rfl trivial ?_
  rw [h15]
  refine pm_icmp_ge (off := 103) 164 (by decide +kernel) (by decide) (fun (h9 : (nI (k + d)) ≤ (nI k)) => absurd h9 (nI_ge (by omega) (by omega))) (fun (h61 : ¬ ((nI (k + d)) ≤ (nI k))) => ?_)
  refine pm_bl [(.aload_n 0, 1, 0, 0, 0), (.getfield 7, 3, 10, 0, 0), (.sipush 289, 3, 0, 0, 289), (.iaload, 1, 0, 0, 0)] (pc1 := 72) (lo1 := [some (.ref 47), some (.int 1), some (.int (nI k)), none]) (st1 := [.int (μ.1 48 (289 : Int32).toNatClampNeg)]) (μ1 := μ) (vc := vp_in 289 620 ∧ True) rfl (by decide +kernel) rfl ⟨(by unfold vp_in; decide), trivial⟩ ?_
  rw [show (289 : Int32).toNatClampNeg = 289 from by decide, hM, lr_gl hG]
  refine pm_bl [(.bipush 30, 2, 0, 0, 30)] (pc1 := 74) (lo1 := [some (.ref 47), some (.int 1), some (.int (nI k)), none]) (st1 := [.int 30, .int (nI (lr_n g 289))]) (μ1 := μ) (vc := True) rfl (by decide +kernel) rfl trivial ?_
  refine pm_icmp_ne (off := 7) 81 (by decide +kernel) (by decide) (fun (h74 : ¬ (nI (lr_n g 289)) = 30) => ?_) (fun (h9 : (nI (lr_n g 289)) = 30) => absurd ((nI_eq (b := 30) (by omega) (by omega)).mp h9) (by omega))
  refine pm_bl [(.aload_n 0, 1, 0, 0, 0), (.aload_n 0, 1, 0, 0, 0), (.getfield 32, 3, 10, 14, 0), (.iconst 3, 1, 0, 0, 3), (.iload_n 2, 1, 2, 0, 0), (.imul, 1, 0, 0, 0)] (pc1 := 89) (lo1 := [some (.ref 47), some (.int 1), some (.int (nI k)), none]) (st1 := [.int (3 * (nI k)), .ref 54, .ref 47]) (μ1 := μ) (vc := True) rfl (by decide +kernel) rfl trivial ?_
  rw [(show (3 * (nI k) : Int32) = nI (3 * (k)) from by simp only [nI, Int32.ofNat_add, Int32.ofNat_mul]; rfl).trans (congrArg nI (show 3 * (k) = 3 * k from by omega))]
  refine pm_bl [(.iaload, 1, 0, 0, 0)] (pc1 := 90) (lo1 := [some (.ref 47), some (.int 1), some (.int (nI k)), none]) (st1 := [.int (μ.1 54 (nI (3 * k)).toNatClampNeg), .ref 47]) (μ1 := μ) (vc := vp_in (nI (3 * k)) 48 ∧ True) rfl (by decide +kernel) rfl ⟨(vp_in_nI (by omega) (by omega)), trivial⟩ ?_
  rw [nI_clamp (n := 3 * k) (by omega), ht0]
  refine pm_callV2 mi_X10_isPerson (ix := 102) (b := 47) (ci := 10) (kc2 := 0) (ks2 := 0) (As := [.int x.1]) (rest := []) (c_X10_isPerson x.1 μ hM hG) cal_X10_isPerson lk10_102 (by decide +kernel) rfl (by decide +kernel) rfl rfl rfl rfl (Nat.le_of_ble_eq_true rfl) (by decide) (by decide) (fun _ _ h9 => h9.elim) ?_
  rintro _ _ ⟨rfl, h9⟩; rw [h9]; clear h9
  show pm_V _ _ _ _ 93 _ [.int (lr_b (lr_be x.1 (nI (lr_n g 35))))] _
  refine pm_ifb_eq (off := 7) 100 (by decide +kernel) (by decide) (fun (h9 : (lr_be x.1 (nI (lr_n g 35))) = false) => absurd (hb.symm.trans h9) (by decide)) (fun (h93 : (lr_be x.1 (nI (lr_n g 35))) = true) => ?_)
  refine pm_bl [(.iconst 0, 1, 0, 0, 0), (.goto 4, 3, 101, 0, 0), (.istore_n 3, 1, 3, 0, 0), (.iload_n 3, 1, 3, 0, 0)] (pc1 := 103) (lo1 := [some (.ref 47), some (.int 1), some (.int (nI k)), some (.int 0)]) (st1 := [.int 0]) (μ1 := μ) (vc := True) rfl (by decide +kernel) rfl trivial ?_
  refine pm_if_le (off := 23) 126 (by decide +kernel) (by decide) (fun _ => ?_) (fun h9 => absurd h9 (by decide))
  refine pm_bl [(.aload_n 0, 1, 0, 0, 0), (.aload_n 0, 1, 0, 0, 0), (.getfield 32, 3, 10, 14, 0), (.iconst 3, 1, 0, 0, 3), (.iload_n 2, 1, 2, 0, 0), (.imul, 1, 0, 0, 0)] (pc1 := 134) (lo1 := [some (.ref 47), some (.int 1), some (.int (nI k)), some (.int 0)]) (st1 := [.int (3 * (nI k)), .ref 54, .ref 47]) (μ1 := μ) (vc := True) rfl (by decide +kernel) rfl trivial ?_
  rw [(show (3 * (nI k) : Int32) = nI (3 * (k)) from by simp only [nI, Int32.ofNat_add, Int32.ofNat_mul]; rfl).trans (congrArg nI (show 3 * (k) = 3 * k from by omega))]
  refine pm_bl [(.iaload, 1, 0, 0, 0)] (pc1 := 135) (lo1 := [some (.ref 47), some (.int 1), some (.int (nI k)), some (.int 0)]) (st1 := [.int (μ.1 54 (nI (3 * k)).toNatClampNeg), .ref 47]) (μ1 := μ) (vc := vp_in (nI (3 * k)) 48 ∧ True) rfl (by decide +kernel) rfl ⟨(vp_in_nI (by omega) (by omega)), trivial⟩ ?_
  rw [nI_clamp (n := 3 * k) (by omega), ht0]
  refine pm_bl [(.aload_n 0, 1, 0, 0, 0), (.getfield 32, 3, 10, 14, 0), (.iconst 3, 1, 0, 0, 3), (.iload_n 2, 1, 2, 0, 0), (.imul, 1, 0, 0, 0), (.iconst 1, 1, 0, 0, 1), (.iadd, 1, 0, 0, 0)] (pc1 := 144) (lo1 := [some (.ref 47), some (.int 1), some (.int (nI k)), some (.int 0)]) (st1 := [.int ((3 * (nI k)) + 1), .ref 54, .int x.1, .ref 47]) (μ1 := μ) (vc := True) rfl (by decide +kernel) rfl trivial ?_
  rw [(show ((3 * (nI k)) + 1 : Int32) = nI ((3 * (k)) + 1) from by simp only [nI, Int32.ofNat_add, Int32.ofNat_mul]; rfl).trans (congrArg nI (show (3 * (k)) + 1 = 1 + 3 * k from by omega))]
  refine pm_bl [(.iaload, 1, 0, 0, 0)] (pc1 := 145) (lo1 := [some (.ref 47), some (.int 1), some (.int (nI k)), some (.int 0)]) (st1 := [.int (μ.1 54 (nI (1 + 3 * k)).toNatClampNeg), .int x.1, .ref 47]) (μ1 := μ) (vc := vp_in (nI (1 + 3 * k)) 48 ∧ True) rfl (by decide +kernel) rfl ⟨(vp_in_nI (by omega) (by omega)), trivial⟩ ?_
  rw [nI_clamp (n := 1 + 3 * k) (by omega), Nat.add_comm 1, ht1]
  refine pm_bl [(.aload_n 0, 1, 0, 0, 0), (.getfield 32, 3, 10, 14, 0), (.iconst 3, 1, 0, 0, 3), (.iload_n 2, 1, 2, 0, 0), (.imul, 1, 0, 0, 0), (.iconst 2, 1, 0, 0, 2), (.iadd, 1, 0, 0, 0)] (pc1 := 154) (lo1 := [some (.ref 47), some (.int 1), some (.int (nI k)), some (.int 0)]) (st1 := [.int ((3 * (nI k)) + 2), .ref 54, .int x.2.1, .int x.1, .ref 47]) (μ1 := μ) (vc := True) rfl (by decide +kernel) rfl trivial ?_
  rw [(show ((3 * (nI k)) + 2 : Int32) = nI ((3 * (k)) + 2) from by simp only [nI, Int32.ofNat_add, Int32.ofNat_mul]; rfl).trans (congrArg nI (show (3 * (k)) + 2 = 2 + 3 * k from by omega))]
  refine pm_bl [(.iaload, 1, 0, 0, 0)] (pc1 := 155) (lo1 := [some (.ref 47), some (.int 1), some (.int (nI k)), some (.int 0)]) (st1 := [.int (μ.1 54 (nI (2 + 3 * k)).toNatClampNeg), .int x.2.1, .int x.1, .ref 47]) (μ1 := μ) (vc := vp_in (nI (2 + 3 * k)) 48 ∧ True) rfl (by decide +kernel) rfl ⟨(vp_in_nI (by omega) (by omega)), trivial⟩ ?_
  rw [nI_clamp (n := 2 + 3 * k) (by omega), Nat.add_comm 2, ht2]
  refine pm_callV2 mi_X10_addsLetter (ix := 130) (b := 47) (ci := 10) (kc2 := 0) (ks2 := 0) (As := [.int x.1, .int x.2.1, .int x.2.2]) (rest := []) (c_X10_addsLetter x.1 x.2.1 x.2.2 μ hM hG hn) cal_X10_addsLetter lk10_130 (by decide +kernel) rfl (by decide +kernel) rfl rfl rfl rfl (Nat.le_of_ble_eq_true rfl) (by decide) (by decide) (fun _ _ h9 => h9.elim) ?_
  rintro _ μ3 ⟨rfl, hf3, hr3⟩
  show pm_V _ _ _ _ 158 _ [] _
  refine pm_bl [(.iinc 2 1, 3, 2, 0, 1), (.goto (-105), 3, 56, 0, 0)] (pc1 := 56) (lo1 := [some (.ref 47), some (.int 1), some (.int ((nI k) + 1)), some (.int 0)]) (st1 := []) (μ1 := μ3) (vc := True) rfl (by decide +kernel) rfl trivial ?_
  rw [nI_1]; exact pm_V.drop (lo' := [some (.ref 47), some (.int 1), some (.int (nI (k + 1))), none]) ⟨rfl, rfl, rfl, trivial⟩ (K μ3 hf3 hr3)
theorem l_X10_arrive {c : Nat} {μ0 : pm_Mm} (P : Option Value → pm_Mm → Prop) (hp : μ0.1 47 5 = nI c) (hc8 : c ≤ 8) : ∀ (L : List (Int32 × Int32 × Int32)) (k : Nat) (g1 : Nat → Int32) (μ1 : pm_Mm), lr_fsp μ0 μ1 → μ1.1 48 = g1 → lr_G g1 → μ0.1 47 15 = nI (k + L.length) → k + L.length ≤ 13 → (∀ i x, L[i]? = some x → μ0.1 54 (3 * (k + i)) = x.1 ∧ μ0.1 54 (3 * (k + i) + 1) = x.2.1 ∧ μ0.1 54 (3 * (k + i) + 2) = x.2.2) → (∀ x, x ∈ L → lr_Lk x) → (∀ x, 620 ≤ x → g1 x = μ0.1 48 x) → (∀ v μ2, lr_Aw μ0 g1 (k + L.length) (lr_why (lr_n g1 35) (lr_n g1 289) L) L v μ2 → P v μ2) → pm_V mi_X10_arrive (P, pm_NX, fun _ _ _ => True) 0 0 56 [some (.ref 47), some (.int 1), some (.int (nI k)), none] [] μ1 := by
  intro L
  induction L with
  | nil =>
    intro k g1 μ1 hf hM hG h15 h13 ht hL h620 hP
    have e15 : μ1.1 47 15 = nI (k + 0) := by rw [hf.1 47 (by decide) (by decide)]; exact h15
    exact e_X10_arrive (d := 0) _ μ1 hM hG hf e15 h13 rfl (by rw [hf.1 47 (by decide) (by decide)]; exact hp) hc8 (hP _ _ ⟨fun _ => ⟨rfl, μ1, hf, hM, rfl⟩, fun e => absurd rfl e⟩)
  | cons x L ih =>
    intro k g1 μ1 hf hM hG h15 h13 ht hL h620 hP
    have m6 := lr_ml hG
    have m2 := lr_mp hG
    rw [List.length_cons] at h15 h13
    have e15 : μ1.1 47 15 = nI (k + (L.length + 1)) := by rw [hf.1 47 (by decide) (by decide)]; exact h15
    obtain ⟨t0, t1, t2⟩ := ht 0 x rfl
    rw [Nat.add_zero] at t0 t1 t2
    have e54 := hf.1 54 (by decide) (by decide)
    rw [← e54] at t0 t1 t2
    by_cases hn : lr_n g1 289 = 30
    · refine r1_X10_arrive (c := 0) _ μ1 hM hG hf e15 h13 (by omega) t0 t1 t2 hn ?_
      refine hP _ _ ?_
      unfold lr_why; rw [if_pos hn]
      exact ⟨fun e => absurd e (by decide), fun _ => ⟨rfl, _, hf.bk (fun j hj => by rw [hM]; exact h620 j hj), rfl⟩⟩
    · by_cases hb : lr_be x.1 (nI (lr_n g1 35)) = true
      · refine s_X10_arrive (c := 0) _ μ1 hM hG hf e15 h13 (by omega) t0 t1 t2 (by omega) hb (fun μ2 hf2 hr2 => ?_)
        have hG2 := lr_glet_ok hG (by omega) hb (hL x (List.mem_cons_self ..))
        have ew : lr_why (lr_n g1 35) (lr_n g1 289) (x :: L) = lr_why (lr_n g1 35) (lr_n g1 289 + 1) L := by
          show (if lr_n g1 289 = 30 then (1 : Int32) else if lr_be x.1 (nI (lr_n g1 35)) = false then 3 else _) = _
          rw [if_neg hn, if_neg (by rw [hb]; decide)]
        refine ih (k + 1) (lr_glet g1 x.1 x.2.1 x.2.2 (g1 0)) μ2 (hf.tr hf2) hr2 hG2 (by rw [h15]; congr 1; omega) (by omega) (fun i y hy => by
          have := ht (i + 1) y (by rw [List.getElem?_cons_succ]; exact hy)
          rw [show k + 1 + i = k + (i + 1) from by omega]; exact this) (fun y hy => hL y (List.mem_cons_of_mem _ hy)) (fun j hj => by rw [lr_glet_o (by omega) (by omega)]; exact h620 j hj) (fun v μ9 h => hP v μ9 ?_)
        rw [lr_glet_n (by omega), show lr_n (lr_glet g1 x.1 x.2.1 x.2.2 (g1 0)) 35 = lr_n g1 35 from by unfold lr_n; rw [lr_glet_o (by omega) (by omega)], show k + 1 + L.length = k + (L.length + 1) from by omega] at h
        rw [ew, List.length_cons]
        exact h
      · rw [Bool.not_eq_true] at hb
        refine r3_X10_arrive (c := 0) _ μ1 hM hG hf e15 h13 (by omega) t0 t1 t2 (by omega) hb ?_
        have ew : lr_why (lr_n g1 35) (lr_n g1 289) (x :: L) = 3 := by
          show (if lr_n g1 289 = 30 then (1 : Int32) else if lr_be x.1 (nI (lr_n g1 35)) = false then 3 else _) = _
          rw [if_neg hn, if_pos hb]
        refine hP _ _ ?_
        rw [ew]
        exact ⟨fun e => absurd e (by decide), fun _ => ⟨rfl, _, hf.bk (fun j hj => by rw [hM]; exact h620 j hj), rfl⟩⟩
set_option maxHeartbeats 4000000 in
set_option maxRecDepth 100000 in
theorem c_X10_arrive_f {t : Nat → Int32} {n : Nat} (μ : pm_Mm) (h11 : μ.1 47 11 = nI n) (hn : n ≤ 40) (ht : ∀ i, i < n → μ.1 53 i = t i) (hR : ¬ (lr_rd t n 41 0 []).1 = -1) : pm_CT mi_X10_arrive [.ref 47] μ (fun v μ2 => v = some (.int 0) ∧ ∃ M, lr_Fa (pm_set μ 47 7 0) 0 M ∧ μ2 = pm_set (pm_set (pm_set M 47 13 (lr_rd t n 41 0 []).1) 47 11 0) 47 7 1) pm_NX := by
  refine pm_CT_of (lo := [some (.ref 47), none, none, none]) (by decide +kernel) rfl rfl (by intro v hv; simp at hv; rcases hv with rfl <;> rfl) (Nat.le_of_ble_eq_true rfl) rfl ?_
  refine pm_bl [(.aload_n 0, 1, 0, 0, 0), (.iconst 0, 1, 0, 0, 0), (.putfield 35, 3, 10, 7, 0), (.aload_n 0, 1, 0, 0, 0)] (pc1 := 6) (lo1 := [some (.ref 47), none, none, none]) (st1 := [.ref 47]) (μ1 := pm_set μ 47 7 0) (vc := True) rfl (by decide +kernel) rfl trivial ?_
  refine pm_callV2 mi_X10_isText (ix := 200) (b := 47) (ci := 10) (kc2 := 0) (ks2 := 0) (As := []) (rest := []) (c_X10_isText (t := t) (n := n) (pm_set μ 47 7 0) (by rw [pm_set_miss (Or.inr (by decide))]; exact h11) hn (fun i hi => by rw [pm_set_off (by decide)]; exact ht i hi)) cal_X10_isText lk10_200 (by decide +kernel) rfl (by decide +kernel) rfl rfl rfl rfl (Nat.le_of_ble_eq_true rfl) (by decide) (by decide) (fun _ _ h9 => h9.elim) ?_
  rintro _ μ3 ⟨rfl, hF, hN, hO⟩
  rw [decide_eq_false hR]
  show pm_V _ _ _ _ 9 _ [.int 0] _
  refine pm_bl [(.istore_n 1, 1, 1, 0, 0), (.aload_n 0, 1, 0, 0, 0), (.iload_n 1, 1, 1, 0, 0)] (pc1 := 12) (lo1 := [some (.ref 47), some (.int 0), none, none]) (st1 := [.int 0, .ref 47]) (μ1 := μ3) (vc := True) rfl (by decide +kernel) rfl trivial ?_
  refine pm_if_eq (off := 7) 19 (by decide +kernel) (by decide) (fun _ => ?_) (fun h9 => absurd h9 (by decide))
  refine pm_bl [(.aload_n 0, 1, 0, 0, 0), (.getfield 182, 3, 10, 12, 0)] (pc1 := 23) (lo1 := [some (.ref 47), some (.int 0), none, none]) (st1 := [.int (μ3.1 47 12), .ref 47]) (μ1 := μ3) (vc := True) rfl (by decide +kernel) rfl trivial ?_
  rw [hN hR]
  refine pm_bl [(.putfield 28, 3, 10, 13, 0), (.aload_n 0, 1, 0, 0, 0), (.iconst 0, 1, 0, 0, 0), (.putfield 179, 3, 10, 11, 0), (.iload_n 1, 1, 1, 0, 0)] (pc1 := 32) (lo1 := [some (.ref 47), some (.int 0), none, none]) (st1 := [.int 0]) (μ1 := pm_set (pm_set μ3 47 13 ((lr_rd t n 41 0 []).1)) 47 11 0) (vc := True) rfl (by decide +kernel) rfl trivial ?_
  refine pm_if_ne (off := 9) 41 (by decide +kernel) (by decide) (fun h9 => absurd h9 (by decide)) (fun _ => ?_)
  refine pm_bl [(.aload_n 0, 1, 0, 0, 0), (.iconst 1, 1, 0, 0, 1)] (pc1 := 37) (lo1 := [some (.ref 47), some (.int 0), none, none]) (st1 := [.int 1, .ref 47]) (μ1 := pm_set (pm_set μ3 47 13 ((lr_rd t n 41 0 []).1)) 47 11 0) (vc := True) rfl (by decide +kernel) rfl trivial ?_
  refine pm_callV2 mi_X10_fails (ix := 41) (b := 47) (ci := 10) (kc2 := 0) (ks2 := 0) (As := [.int 1]) (rest := []) (c_X10_fails 1 (pm_set (pm_set μ3 47 13 ((lr_rd t n 41 0 []).1)) 47 11 0)) cal_X10_fails lk10_41 (by decide +kernel) rfl (by decide +kernel) rfl rfl rfl rfl (Nat.le_of_ble_eq_true rfl) (by decide) (by decide) (fun _ _ h9 => h9.elim) ?_
  rintro _ _ ⟨rfl, h9⟩; rw [h9]; clear h9
  show pm_V _ _ _ _ 40 _ [.int 0] _
  exact pm_iret (ty := .int) rfl rfl (by decide) (by decide) (by decide +kernel) (⟨rfl, μ3, hF, rfl⟩)
set_option maxHeartbeats 4000000 in
set_option maxRecDepth 100000 in
theorem c_X10_arrive {g : Nat → Int32} {c : Nat} {t : Nat → Int32} {n : Nat} (μ : pm_Mm) (h11 : μ.1 47 11 = nI n) (hn : n ≤ 40) (ht : ∀ i, i < n → μ.1 53 i = t i) (hM : μ.1 48 = g) (hG : lr_G g) (hp : μ.1 47 5 = nI c) (hc8 : c ≤ 8) (hR : (lr_rd t n 41 0 []).1 = -1) : pm_CT mi_X10_arrive [.ref 47] μ (fun v μ2 => ∃ M, lr_Fa (pm_set μ 47 7 0) 0 M ∧ lr_Aw (pm_set (pm_set M 47 13 (-1)) 47 11 0) g (lr_rd t n 41 0 []).2.length (lr_why (lr_n g 35) (lr_n g 289) (lr_rd t n 41 0 []).2) (lr_rd t n 41 0 []).2 v μ2) pm_NX := by
  refine pm_CT_of (lo := [some (.ref 47), none, none, none]) (by decide +kernel) rfl rfl (by intro v hv; simp at hv; rcases hv with rfl <;> rfl) (Nat.le_of_ble_eq_true rfl) rfl ?_
  refine pm_bl [(.aload_n 0, 1, 0, 0, 0), (.iconst 0, 1, 0, 0, 0), (.putfield 35, 3, 10, 7, 0), (.aload_n 0, 1, 0, 0, 0)] (pc1 := 6) (lo1 := [some (.ref 47), none, none, none]) (st1 := [.ref 47]) (μ1 := pm_set μ 47 7 0) (vc := True) rfl (by decide +kernel) rfl trivial ?_
  refine pm_callV2 mi_X10_isText (ix := 200) (b := 47) (ci := 10) (kc2 := 0) (ks2 := 0) (As := []) (rest := []) (c_X10_isText (t := t) (n := n) (pm_set μ 47 7 0) (by rw [pm_set_miss (Or.inr (by decide))]; exact h11) hn (fun i hi => by rw [pm_set_off (by decide)]; exact ht i hi)) cal_X10_isText lk10_200 (by decide +kernel) rfl (by decide +kernel) rfl rfl rfl rfl (Nat.le_of_ble_eq_true rfl) (by decide) (by decide) (fun _ _ h9 => h9.elim) ?_
  rintro _ μ3 ⟨rfl, hF, hN, hO⟩
  rw [decide_eq_true hR]
  show pm_V _ _ _ _ 9 _ [.int 1] _
  refine pm_bl [(.istore_n 1, 1, 1, 0, 0), (.aload_n 0, 1, 0, 0, 0), (.iload_n 1, 1, 1, 0, 0)] (pc1 := 12) (lo1 := [some (.ref 47), some (.int 1), none, none]) (st1 := [.int 1, .ref 47]) (μ1 := μ3) (vc := True) rfl (by decide +kernel) rfl trivial ?_
  refine pm_if_eq (off := 7) 19 (by decide +kernel) (by decide) (fun h9 => absurd h9 (by decide)) (fun _ => ?_)
  refine pm_bl [(.iconst (-1), 1, 0, 0, (-1)), (.goto 7, 3, 23, 0, 0)] (pc1 := 23) (lo1 := [some (.ref 47), some (.int 1), none, none]) (st1 := [.int (-1), .ref 47]) (μ1 := μ3) (vc := True) rfl (by decide +kernel) rfl trivial ?_
  refine pm_bl [(.putfield 28, 3, 10, 13, 0), (.aload_n 0, 1, 0, 0, 0), (.iconst 0, 1, 0, 0, 0), (.putfield 179, 3, 10, 11, 0), (.iload_n 1, 1, 1, 0, 0)] (pc1 := 32) (lo1 := [some (.ref 47), some (.int 1), none, none]) (st1 := [.int 1]) (μ1 := pm_set (pm_set μ3 47 13 (-1)) 47 11 0) (vc := True) rfl (by decide +kernel) rfl trivial ?_
  refine pm_if_ne (off := 9) 41 (by decide +kernel) (by decide) (fun _ => ?_) (fun h9 => absurd h9 (by decide))
  refine pm_bl [(.aload_n 0, 1, 0, 0, 0), (.getfield 7, 3, 10, 0, 0), (.iconst 0, 1, 0, 0, 0), (.aload_n 0, 1, 0, 0, 0), (.getfield 16, 3, 10, 2, 0), (.iconst 0, 1, 0, 0, 0)] (pc1 := 51) (lo1 := [some (.ref 47), some (.int 1), none, none]) (st1 := [.int 0, .ref 50, .int 0, .ref 48]) (μ1 := pm_set (pm_set μ3 47 13 (-1)) 47 11 0) (vc := True) rfl (by decide +kernel) rfl trivial ?_
  refine pm_callS2 mi_X10_copies (ix := 52) (kc2 := 0) (ks2 := 0) (As := [.ref 48, .int 0, .ref 50, .int 0]) (rest := []) (c_X10_cp_48_50 (i := 0) (j := 0) (pm_set (pm_set μ3 47 13 (-1)) 47 11 0) rfl rfl (by omega) (by omega)) cal_X10_copies lk10_52 (by decide +kernel) rfl (by decide +kernel) rfl rfl (Nat.le_of_ble_eq_true rfl) (by decide) (by decide) (fun _ _ h9 => h9.elim) ?_
  rintro _ _ ⟨rfl, h9⟩; rw [h9]; clear h9
  show pm_V _ _ _ _ 54 _ [] _
  refine pm_bl [(.iconst 0, 1, 0, 0, 0), (.istore_n 2, 1, 2, 0, 0)] (pc1 := 56) (lo1 := [some (.ref 47), some (.int 1), some (.int 0), none]) (st1 := []) (μ1 := pm_row (pm_set (pm_set μ3 47 13 (-1)) 47 11 0) 50 (lr_cpy ((pm_set (pm_set μ3 47 13 (-1)) 47 11 0).1 48) ((pm_set (pm_set μ3 47 13 (-1)) 47 11 0).1 50) 0 0 620)) (vc := True) rfl (by decide +kernel) rfl trivial ?_
  obtain ⟨q15, qT, q13, qL⟩ := hO hR
  have e48 : μ3.1 48 = g := (funext fun j => hF.1 48 j (by decide) (by omega)).trans (by rw [pm_set_off (by decide)]; exact hM)
  refine l_X10_arrive (c := c) (μ0 := pm_set (pm_set μ3 47 13 (-1)) 47 11 0) _ (by rw [pm_set_miss (Or.inr (by decide)), pm_set_miss (Or.inr (by decide)), hF.1 47 5 (by decide) (by omega), pm_set_miss (Or.inr (by decide))]; exact hp) hc8 (lr_rd t n 41 0 []).2 0 g _ lr_fsp.rf (by rw [pm_row_off (by decide), pm_set_off (by decide), pm_set_off (by decide)]; exact e48) hG (by rw [pm_set_miss (Or.inr (by decide)), pm_set_miss (Or.inr (by decide)), Nat.zero_add]; exact q15) (by omega) (fun i x hx => by rw [pm_set_off (by decide), pm_set_off (by decide), Nat.zero_add]; exact qT i x hx) qL (fun x _ => by rw [pm_set_off (by decide), pm_set_off (by decide), e48]) (fun v μ2 h => ⟨μ3, hF, by rw [Nat.zero_add] at h; exact h⟩)
