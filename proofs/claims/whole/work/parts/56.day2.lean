/-! a day gone by: good rows go to good rows -/
/-- good rows with all that is known of them -/
def lr_I (g : Nat → Int32) : Prop := lr_G g ∧ lr_X g ∧ lr_H g ∧ lr_C g ∧ lr_W g
/-- the row before the numbers, and the order of the day -/
def lr_mid (g : Nat → Int32) : Nat → Int32 := lr_pb (lr_pa g (lr_n g 289)) (lr_n g 289)
def lr_S (g : Nat → Int32) : List Nat := lr_ord g (lr_n g 289)
def lr_day (g : Nat → Int32) : Nat → Int32 := lr_gby g (lr_S g)
theorem lr_mid_sm {g : Nat → Int32} : lr_Sm g (lr_mid g) := fun x _ h2 => lr_pab_o (by omega)
theorem lr_mid_n {g : Nat → Int32} {x : Nat} (hx : x < 290) : lr_n (lr_mid g) x = lr_n g x := by unfold lr_n lr_mid; rw [lr_pab_o (by omega)]
theorem lr_mid_G {g : Nat → Int32} (hI : lr_I g) : lr_G (lr_mid g) := lr_pb_G (lr_pa_G hI.1 hI.2.2.2.2 _ (Nat.le_refl _)) _ (by rw [lr_pa_n (by omega)]; exact Nat.le_refl _)
theorem lr_S_mem {g : Nat → Int32} {l : Nat} : l ∈ lr_S g ↔ l < lr_n g 289 ∧ lr_due g l = true := lr_ord_mem
theorem lr_S_nd {g : Nat → Int32} (hG : lr_G g) : (lr_S g).Nodup := (lr_ord_srt (g := g) (k := lr_n g 289) (lr_ml hG)).imp (fun h e => by rw [e] at h; exact Nat.lt_irrefl _ h)
/-- what is known of a letter handed over -/
theorem lr_due_at {g : Nat → Int32} (hG : lr_G g) {l : Nat} (hl : l < lr_n g 289) (h : lr_due g l = true) : ∃ x u w : Nat, lr_hoF g l = nI x ∧ x < lr_n g 2 ∧ lr_end g l = x ∧ u < lr_n g 116 ∧ lr_sv g x = nI u ∧ g (291 + 11 * l) = nI w ∧ 1 ≤ w ∧ w ≤ 9 ∧ (¬ g (292 + 11 * l) = 0 → ∃ i, lr_sg g (lr_n g (290 + 11 * l)) (g 0) = nI i ∧ i < lr_n g 35) := by
  have hP := lr_Lc.p hG hl
  have m1 := lr_mh hG
  obtain ⟨x, ex, hx⟩ := lr_we_ok hG hP.2 (g 0)
  obtain ⟨-, ⟨w, ew, w1, w9⟩, -⟩ := lr_Lc_of hG hl
  have e5 := lr_due_oc h
  have ee : lr_end g l = x := by unfold lr_end; rw [ex]; exact nI_clamp (by omega)
  rcases lr_sv_ok g x with e | ⟨u, eu, hu⟩
  · exfalso
    unfold lr_oc at e5
    rw [ex, nI_clamp (by omega), e, if_pos rfl] at e5
    split at e5 <;> exact absurd e5 (by decide)
  · refine ⟨x, u, w, ex, hx, ee, hu, eu, ew, w1, w9, fun h0 => ?_⟩
    rcases lr_sg_ok (g := g) (lr_n g (290 + 11 * l)) (g 0) hP.2 with e | q
    · exfalso
      unfold lr_oc at e5
      rw [e, if_neg h0, if_pos rfl] at e5
      repeat' split at e5
      all_goals exact absurd e5 (by decide)
    · exact q
theorem lr_mid_due {g : Nat → Int32} (hG : lr_G g) {l : Nat} (hl : l < lr_n g 289) (h : lr_due g l = true) : lr_Le (lr_gdl0 g l (g 0) (lr_hoF g l) (lr_siF g l)) (lr_mid g) l := by
  have q := lr_pab_at hG hl
  rw [lr_one_due h] at q
  exact q
theorem lr_mid_300 {g : Nat → Int32} (hG : lr_G g) {l : Nat} (hl : l < lr_n g 289) : lr_mid g (300 + 11 * l) = g (300 + 11 * l) := by
  unfold lr_mid; rw [(lr_pab_at hG hl).at_ (by omega) (by omega), lr_one_300]
theorem lr_wait_300 {g : Nat → Int32} (hC : lr_C g) {l : Nat} (hl : l < lr_n g 289) (h : g (294 + 11 * l) = 0) : g (300 + 11 * l) = -1 :=
  Classical.byContradiction fun q => absurd (h.symm.trans ((hC.2.1 l hl).mpr q)) (by decide)
/-- S lists who was handed over, in the order of the numbers -/
theorem lr_mid_srt {g : Nat → Int32} (hI : lr_I g) : lr_Srt (lr_mid g) (lr_S g) := by
  obtain ⟨hG, hX, hH, hC, hW⟩ := hI
  have m1 := lr_mh hG; have m6 := lr_ml hG; have m3 := lr_mw hG
  have hG2 := lr_mid_G ⟨hG, hX, hH, hC, hW⟩
  have n2 := lr_mid_n (g := g) (x := 2) (by omega)
  have n116 := lr_mid_n (g := g) (x := 116) (by omega)
  have hDl : ∀ s, s ∈ lr_S g → lr_Dl (lr_mid g) s := by
    intro s hs
    obtain ⟨h1, h2⟩ := lr_S_mem.mp hs
    obtain ⟨x, u, w, e1, hx, -, hu, eu, -⟩ := lr_due_at hG h1 h2
    refine ⟨by rw [lr_mid_n (by omega)]; exact h1, x, u, ?_, by rw [n2]; exact hx, by rw [n116]; exact hu, by rw [lr_mid_sm.sv hG (by omega)]; exact eu⟩
    rw [(lr_mid_due hG h1 h2).at_ (by omega) (by omega), lr_gdl0_8]; exact e1
  refine ⟨fun l hl => ?_, hDl, ?_⟩
  · rw [lr_mid_n (by omega)] at hl
    rw [lr_S_mem]
    by_cases hd : lr_due g l = true
    · refine ⟨fun _ => ⟨hl, hd⟩, fun _ => ?_⟩
      unfold lr_nw
      rw [lr_mid_300 hG hl, lr_wait_300 hC hl (lr_due_wt hd), (lr_mid_due hG hl hd).at_ (by omega) (by omega), lr_gdl0_4]
      rfl
    · refine ⟨fun q => ?_, fun q => absurd q.2 hd⟩
      exfalso
      unfold lr_nw at q
      rw [Bool.and_eq_true] at q
      have q1 := of_decide_eq_true q.1; have q2 := of_decide_eq_true q.2
      rw [lr_mid_300 hG hl] at q2
      rw [show lr_mid g (294 + 11 * l) = lr_one g l (294 + 11 * l) from (lr_pab_at hG hl).at_ (by omega) (by omega)] at q1
      by_cases hw : g (294 + 11 * l) = 0
      · rcases lr_one_nd hw (hW l hl hw) (by rw [Bool.not_eq_true] at hd; exact hd) with e | ⟨e, -⟩ <;> rw [e] at q1 <;> exact absurd q1 (by decide)
      · rw [lr_one_no hw] at q1
        have hn := (hC.2.1 l hl).mp q1
        obtain ⟨x, ex, hx⟩ := (lr_Lc_of hG hl).2.2.2.2.2.2.2.2.2.2
        rcases x with _ | x
        · exact hn (by rw [ex]; rfl)
        · rw [ex, nI_pred] at q2; exact absurd q2 (nI_pos (by omega))
  · refine (lr_ord_srt (g := g) (k := lr_n g 289) m6).imp_of_mem (fun {a b} ha hb hk => ?_)
    obtain ⟨a1, a2⟩ := lr_S_mem.mp ha; obtain ⟨b1, b2⟩ := lr_S_mem.mp hb
    obtain ⟨x, u, wa, ex, hx, dx, hu, eu, ewa, wa1, wa9, -⟩ := lr_due_at hG a1 a2
    obtain ⟨y, t, wb, ey, hy, dy, ht, et, ewb, wb1, wb9, -⟩ := lr_due_at hG b1 b2
    have sx := lr_mid_sm.sp hG hx; have sy := lr_mid_sm.sp hG hy
    rw [lr_sp_n, lr_sp_n] at sx sy
    have px := (nI_eq (by have := lr_spn_le (lr_mid g) x; omega) (by have := lr_spn_le g x; omega)).mp sx
    have py := (nI_eq (by have := lr_spn_le (lr_mid g) y; omega) (by have := lr_spn_le g y; omega)).mp sy
    have ca : lr_n (lr_mid g) (298 + 11 * a) = x := by unfold lr_n; rw [(lr_mid_due hG a1 a2).at_ (by omega) (by omega), lr_gdl0_8, ex]; exact nI_clamp (by omega)
    have cb : lr_n (lr_mid g) (298 + 11 * b) = y := by unfold lr_n; rw [(lr_mid_due hG b1 b2).at_ (by omega) (by omega), lr_gdl0_8, ey]; exact nI_clamp (by omega)
    unfold lr_ah
    rw [ca, cb]
    unfold lr_ky at hk
    rw [dx, dy, eu, et, show lr_n g (291 + 11 * a) = wa from by unfold lr_n; rw [ewa]; exact nI_clamp (by omega), show lr_n g (291 + 11 * b) = wb from by unfold lr_n; rw [ewb]; exact nI_clamp (by omega), nI_clamp (by omega), nI_clamp (by omega)] at hk
    exact lr_ah_ky hG2 (fun i j hi hj => by rw [n2] at hi hj; rw [lr_mid_sm _ (by omega) (by omega), lr_mid_sm _ (by omega) (by omega), lr_mid_sm _ (by omega) (by omega), lr_mid_sm _ (by omega) (by omega)]; exact hH i j hi hj) (by omega) (by omega) (by rw [n2]; exact hx) (by rw [n2]; exact hy) (by rw [n116]; exact hu) (by rw [n116]; exact ht) (by rw [lr_mid_sm.sv hG (by omega)]; exact eu) (by rw [lr_mid_sm.sv hG (by omega)]; exact et) (by rw [(lr_mid_due hG a1 a2).at_ (by omega) (by omega), lr_gdl0_1]; exact ewa) (by rw [(lr_mid_due hG b1 b2).at_ (by omega) (by omega), lr_gdl0_1]; exact ewb) wa9 wb9 (by rw [px, py]; exact hk)
theorem lr_S_len {g : Nat → Int32} (hI : lr_I g) : lr_n g 1 + (lr_S g).length ≤ lr_n g 289 := by
  obtain ⟨hG, hX, hH, hC, hW⟩ := hI
  unfold lr_S; rw [lr_ord_len, (hC.N hG).2.2.2]
  refine lr_cnt_dj _ (fun i hi h => ?_)
  refine lr_due_no (fun hw => ?_)
  rw [lr_wait_300 hC hi hw] at h
  exact absurd h (by decide)
/-- the class's way to the same row -/
theorem lr_mid_dls {g : Nat → Int32} (hI : lr_I g) : lr_mid g = lr_dls (g 0) (lr_hoF g) (lr_siF g) (lr_S g) (lr_pc g (lr_n g 289)) := by
  have hG := hI.1
  have hnd := lr_S_nd hG
  funext x
  by_cases h1 : x < 290 ∨ 290 + 11 * lr_n g 289 ≤ x
  · unfold lr_mid
    rw [lr_pab_o h1, lr_dls_o _ _ (fun s hs => by have := (lr_S_mem.mp hs).1; omega), lr_pc_o _ _ h1]
  · obtain ⟨l, hl, hx1, hx2⟩ : ∃ l, l < lr_n g 289 ∧ 290 + 11 * l ≤ x ∧ x < 301 + 11 * l := ⟨(x - 290) / 11, by omega, by omega, by omega⟩
    have ec := lr_pc_at hG _ (Nat.le_refl _) l hl
    by_cases hd : lr_due g l = true
    · rw [if_pos hd] at ec
      rw [(lr_mid_due hG hl hd).at_ hx1 hx2, (lr_dls_at _ _ hnd (lr_S_mem.mpr ⟨hl, hd⟩)).at_ hx1 hx2, (lr_gdl0_cg ec).at_ hx1 hx2]
    · rw [if_neg hd] at ec
      unfold lr_mid
      rw [(lr_pab_at hG hl).at_ hx1 hx2, lr_dls_o _ _ (fun s hs => by
        have : s ≠ l := fun q => hd (q ▸ (lr_S_mem.mp hs).2)
        omega), ec.at_ hx1 hx2]
theorem lr_day_gdels {g : Nat → Int32} (hI : lr_I g) : lr_day g = upd (lr_gdels (g 0) (lr_hoF g) (lr_siF g) (lr_S g) (lr_pc g (lr_n g 289))) 0 (nI (lr_n g 0 + 1)) := by
  have hG := hI.1
  have := lr_S_len hI; have := lr_ml hG; have := lr_mD hG
  rw [lr_gdels_nums _ _ (lr_n g 1) (by rw [lr_pc_o _ _ (by omega)]; exact lr_gD hG) (by omega), ← lr_mid_dls hI]
  rfl
