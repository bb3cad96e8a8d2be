/-! the class: the end of a day, all of it -/
set_option maxHeartbeats 4000000 in
set_option maxRecDepth 100000 in
theorem e_X5_endDay1 {g : Nat → Int32} {n : Nat} (P : Option Value → pm_Mm → Prop) (μ : pm_Mm) (hR : lr_Rel μ.1 1 g) (hG : lr_G g) (K : pm_V mi_X5_endDay (P, pm_NX, fun _ _ _ => True) 0 0 73 [some (.ref 1), some (.int (nI n)), some (.int 0), none] [] μ) : pm_V mi_X5_endDay (P, pm_NX, fun _ _ _ => True) 0 0 4 [some (.ref 1), some (.int (nI n)), some (.int (nI (lr_n g 289))), none] [] μ := by
  have hm1 := lr_mh hG; have hm2 := lr_mw hG; have hm3 := lr_mp hG; have hm4 := lr_mr hG; have hm5 := lr_ma hG; have hm6 := lr_ml hG
  obtain ⟨k, hk⟩ : ∃ k, k = lr_n g 289 := ⟨_, rfl⟩
  rw [← hk]
  refine pm_bl [(.iload_n 2, 1, 2, 0, 0), (.aload_n 0, 1, 0, 0, 0), (.getfield 49, 3, 5, 5, 0), (.getfield 158, 3, 4, 0, 0)] (pc1 := 12) (lo1 := [some (.ref 1), some (.int (nI n)), some (.int (nI k)), none]) (st1 := [.int (μ.1 26 0), .int (nI k)]) (μ1 := μ) (vc := True) rfl (by decide +kernel) rfl trivial ?_
  rw [lr_rNl hR, lr_gl hG]
  refine pm_icmp_ge (off := 59) 71 (by decide +kernel) (by decide) (fun (h12 : (nI (lr_n g 289)) ≤ (nI k)) => ?_) (fun (h9 : ¬ ((nI (lr_n g 289)) ≤ (nI k))) => absurd (nI_le (by omega) (by omega)) h9)
  refine pm_bl [(.iconst 0, 1, 0, 0, 0), (.istore_n 2, 1, 2, 0, 0)] (pc1 := 73) (lo1 := [some (.ref 1), some (.int (nI n)), some (.int 0), none]) (st1 := []) (μ1 := μ) (vc := True) rfl (by decide +kernel) rfl trivial ?_
  exact K
set_option maxHeartbeats 4000000 in
set_option maxRecDepth 100000 in
theorem s_X5_endDay2 {g : Nat → Int32} {k n l q : Nat} (P : Option Value → pm_Mm → Prop) (μ : pm_Mm) (hR : lr_Rel μ.1 1 g) (hG : lr_G g) (hN : lr_N g) (hk : k < n) (hn : n ≤ 30) (hq : μ.1 39 k = nI q) (hq2 : q < 2 ^ 31) (hql : q % 30 = l) (hl : l < lr_n g 289) (hD : lr_n g 1 < 30) (K : ∀ μ2, lr_fr9 μ μ2 → lr_Rel μ2.1 1 (lr_gdel g l (nI (lr_n g 0)) (lr_hoF g l) (lr_siF g l)) → pm_V mi_X5_endDay (P, pm_NX, fun _ _ _ => True) 0 0 73 [some (.ref 1), some (.int (nI n)), some (.int (nI (k + 1))), none] [] μ2) : pm_V mi_X5_endDay (P, pm_NX, fun _ _ _ => True) 0 0 73 [some (.ref 1), some (.int (nI n)), some (.int (nI k)), none] [] μ := by
  refine pm_bl [(.iload_n 2, 1, 2, 0, 0), (.iload_n 1, 1, 1, 0, 0)] (pc1 := 75) (lo1 := [some (.ref 1), some (.int (nI n)), some (.int (nI k)), none]) (st1 := [.int (nI n), .int (nI k)]) (μ1 := μ) (vc := True) rfl (by decide +kernel) rfl trivial ?_
  refine pm_icmp_ge (off := 22) 97 (by decide +kernel) (by decide) (fun (h9 : (nI n) ≤ (nI k)) => absurd h9 (nI_ge (by omega) (by omega))) (fun (h75 : ¬ ((nI n) ≤ (nI k))) => ?_)
  refine pm_bl [(.aload_n 0, 1, 0, 0, 0), (.aload_n 0, 1, 0, 0, 0), (.getfield 57, 3, 5, 7, 0), (.iload_n 2, 1, 2, 0, 0), (.iaload, 1, 0, 0, 0)] (pc1 := 85) (lo1 := [some (.ref 1), some (.int (nI n)), some (.int (nI k)), none]) (st1 := [.int (μ.1 39 (nI k).toNatClampNeg), .ref 1]) (μ1 := μ) (vc := vp_in (nI k) 30 ∧ True) rfl (by decide +kernel) rfl ⟨(vp_in_nI (by omega) (by omega)), trivial⟩ ?_
  first | rw [nI_clamp (n := k) (by omega), hq] | rw [hq]
  refine pm_bl [(.bipush 30, 2, 0, 0, 30), (.irem, 1, 0, 0, 0)] (pc1 := 88) (lo1 := [some (.ref 1), some (.int (nI n)), some (.int (nI k)), none]) (st1 := [.int ((nI q) - (nI q) / 30 * 30), .ref 1]) (μ1 := μ) (vc := (¬ 30 = 0) ∧ True) rfl (by decide +kernel) rfl ⟨(by decide), trivial⟩ ?_
  rw [show nI q - nI q / 30 * 30 = nI l from (nI_mod (b := 30) hq2 (by decide)).trans (by rw [hql])]
  refine pm_callV2 mi_X5_handOver (ix := 172) (b := 1) (ci := 5) (kc2 := 0) (ks2 := 0) (As := [.int (nI l)]) (rest := []) (c_X5_handOver (l := l) μ hR hG hN hl hD) cal_X5_handOver lk5_172 (by decide +kernel) rfl (by decide +kernel) rfl rfl rfl rfl (Nat.le_of_ble_eq_true rfl) (by decide) (by decide) (fun _ _ h9 => h9.elim) ?_
  rintro _ μ3 ⟨rfl, hf, hr⟩
  show pm_V _ _ _ _ 91 _ [] _
  refine pm_bl [(.iinc 2 1, 3, 2, 0, 1), (.goto (-21), 3, 73, 0, 0)] (pc1 := 73) (lo1 := [some (.ref 1), some (.int (nI n)), some (.int ((nI k) + 1)), none]) (st1 := []) (μ1 := μ3) (vc := True) rfl (by decide +kernel) rfl trivial ?_
  rw [nI_1]; exact K μ3 hf hr
set_option maxHeartbeats 4000000 in
set_option maxRecDepth 100000 in
theorem e_X5_endDay2 {g : Nat → Int32} {n : Nat} (P : Option Value → pm_Mm → Prop) (μ : pm_Mm) (hR : lr_Rel μ.1 1 g) (hG : lr_G g) (hn : n ≤ 30) (K : ∀ μ2, lr_fr μ μ2 → lr_Rel μ2.1 1 (upd g 0 (nI (lr_n g 0 + 1))) → P none μ2) : pm_V mi_X5_endDay (P, pm_NX, fun _ _ _ => True) 0 0 73 [some (.ref 1), some (.int (nI n)), some (.int (nI n)), none] [] μ := by
  have hT := lr_gT hG
  refine pm_bl [(.iload_n 2, 1, 2, 0, 0), (.iload_n 1, 1, 1, 0, 0)] (pc1 := 75) (lo1 := [some (.ref 1), some (.int (nI n)), some (.int (nI n)), none]) (st1 := [.int (nI n), .int (nI n)]) (μ1 := μ) (vc := True) rfl (by decide +kernel) rfl trivial ?_
  refine pm_icmp_ge (off := 22) 97 (by decide +kernel) (by decide) (fun (h75 : (nI n) ≤ (nI n)) => ?_) (fun (h9 : ¬ ((nI n) ≤ (nI n))) => absurd (nI_le (Nat.le_refl n) (by omega)) h9)
  refine pm_bl [(.aload_n 0, 1, 0, 0, 0), (.dup, 1, 0, 0, 0), (.getfield 53, 3, 5, 6, 0)] (pc1 := 102) (lo1 := [some (.ref 1), some (.int (nI n)), some (.int (nI n)), none]) (st1 := [.int (μ.1 1 6), .ref 1]) (μ1 := μ) (vc := True) rfl (by decide +kernel) rfl trivial ?_
  rw [lr_rT hR, lr_gT hG]
  refine pm_bl [(.iconst 1, 1, 0, 0, 1), (.iadd, 1, 0, 0, 0), (.putfield 53, 3, 5, 6, 0)] (pc1 := 107) (lo1 := [some (.ref 1), some (.int (nI n)), some (.int (nI n)), none]) (st1 := []) (μ1 := pm_set μ 1 6 ((nI (lr_n g 0)) + 1)) (vc := True) rfl (by decide +kernel) rfl trivial ?_
  exact pm_vret rfl (by decide) (by decide) (by decide +kernel) (by rw [nI_1]; exact K _ (lr_fr.rf.set (by omega) (by omega)) (lr_put_T hR hG.B _))
theorem lr_gdel_sm {A : Nat → Int32} {s : Nat} {dy ho si : Int32} : lr_Sm A (lr_gdel A s dy ho si) := fun x h1 h2 => by
  unfold lr_gdel; rw [upd_ne (by omega), upd_ne (by omega), upd_ne (by omega), upd_ne (by omega), upd_ne (by omega), upd_ne (by omega)]
theorem lr_gdel_o {A : Nat → Int32} {s x : Nat} {dy ho si : Int32} (h1 : x ≠ 1) (h : x < 290 + 11 * s ∨ 301 + 11 * s ≤ x) : lr_gdel A s dy ho si x = A x := by
  unfold lr_gdel; rw [upd_ne (by omega), upd_ne (by omega), upd_ne (by omega), upd_ne (by omega), upd_ne (by omega), upd_ne (by omega)]
theorem lr_hoF_cg {g g2 : Nat → Int32} (hG : lr_G g) (hS : lr_Sm g g2) (h0 : g2 0 = g 0) {l : Nat} (hl : l < lr_n g 289) (he : lr_Le g g2 l) : lr_hoF g2 l = lr_hoF g l := by
  have hP := lr_Lc.p hG hl
  have ep : lr_n g2 (290 + 11 * l) = lr_n g (290 + 11 * l) := by unfold lr_n; rw [he.at_ (x := 290 + 11 * l) (by omega) (by omega)]
  unfold lr_hoF; rw [ep, h0, hS.we hG hP.2]
theorem lr_siF_cg {g g2 : Nat → Int32} (hG : lr_G g) (hS : lr_Sm g g2) (h0 : g2 0 = g 0) {l : Nat} (hl : l < lr_n g 289) (he : lr_Le g g2 l) : lr_siF g2 l = lr_siF g l := by
  have hP := lr_Lc.p hG hl
  have ep : lr_n g2 (290 + 11 * l) = lr_n g (290 + 11 * l) := by unfold lr_n; rw [he.at_ (x := 290 + 11 * l) (by omega) (by omega)]
  unfold lr_siF; rw [ep, h0, hS.sg hG hP.2, he.at_ (x := 292 + 11 * l) (by omega) (by omega)]
/-- the row after a letter was handed over: still good -/
theorem lr_gdel_ok {g A : Nat → Int32} (hG : lr_G g) (hS : lr_Sm g A) (h0 : A 0 = g 0) (hA : lr_G A) (hN : lr_N A) {s : Nat} (hs : s < lr_n g 289) (hn : lr_n A 289 = lr_n g 289) (he : lr_Le g A s) (hd : lr_due g s = true) (hw : A (300 + 11 * s) = -1) : lr_G (lr_gdel A s (g 0) (lr_hoF g s) (lr_siF g s)) ∧ lr_N (lr_gdel A s (g 0) (lr_hoF g s) (lr_siF g s)) ∧ lr_n A 1 < 30 := by
  obtain ⟨x, u, w, ex, hx, -, hu, eu, ew, w1, w9, hsg⟩ := lr_due_at hG hs hd
  have m6 := lr_ml hG
  have e292 := he.at_ (x := 292 + 11 * s) (by omega) (by omega)
  have hG0 : lr_G (lr_gdl0 A s (g 0) (lr_hoF g s) (lr_siF g s)) := by
    rw [← h0, ex]
    have hx' : x < lr_n A 2 := by rw [hS.n (by omega) (by omega)]; exact hx
    unfold lr_siF
    split
    · rename_i q
      exact hA.dl0 (by rw [hn]; exact hs) hx' (s := 0) (by omega) (fun e => by rw [e292, q] at e; exact absurd e (by decide))
    · rename_i q
      obtain ⟨i, ei, hi⟩ := hsg q
      have m2 := lr_mp hG
      rw [h0, ei, ← h0]
      have q2 := hA.dl0 (l := s) (by rw [hn]; exact hs) hx' (s := i + 1) (by omega) (fun _ => by omega)
      rwa [nI_pred] at q2
  have hN0 : lr_N (lr_gdl0 A s (g 0) (lr_hoF g s) (lr_siF g s)) := by
    refine hN.cg (lr_gdl0_o (by omega)) (lr_gdl0_o (by omega)) (fun i _ => ?_)
    by_cases e : i = s
    · rw [e]; exact lr_gdl0_o (by omega)
    · exact lr_gdl0_o (by omega)
  have e1 : lr_n (lr_gdl0 A s (g 0) (lr_hoF g s) (lr_siF g s)) 1 = lr_n A 1 := by unfold lr_n; rw [lr_gdl0_o (by omega)]
  have e289 : lr_n (lr_gdl0 A s (g 0) (lr_hoF g s) (lr_siF g s)) 289 = lr_n A 289 := by unfold lr_n; rw [lr_gdl0_o (by omega)]
  have q := hN0.num1 hG0 (s := s) (by rw [e289, hn]; exact hs) (by rw [lr_gdl0_o (by omega)]; exact hw)
  rw [e1, e289, hn] at q
  rw [lr_gdel_num1 (lr_gD hA)]
  exact ⟨lr_num1_G hG0 (by rw [e1]; omega), q.1, by omega⟩
set_option maxHeartbeats 4000000 in
set_option maxRecDepth 100000 in
theorem c_X5_endDay {g : Nat → Int32} (μ : pm_Mm) (hR : lr_Rel μ.1 1 g) (hI : lr_I g) : pm_CT mi_X5_endDay [.ref 1] μ (fun v μ2 => v = none ∧ lr_fr μ μ2 ∧ lr_Rel μ2.1 1 (lr_day g)) pm_NX := by
  refine pm_CT_of (lo := [some (.ref 1), none, none, none]) (by decide +kernel) rfl rfl (by intro v hv; simp at hv; rcases hv with rfl; rfl) (Nat.le_of_ble_eq_true rfl) rfl ?_
  have hI0 := hI
  obtain ⟨hG, hX, hH, hC, hW⟩ := hI
  have m6 := lr_ml hG
  have hlen := lr_S_len hI0
  -- the second loop
  have h2 : ∀ (S2 : List Nat) (k : Nat) (A : Nat → Int32) (μ1 : pm_Mm), k + S2.length = (lr_S g).length → lr_fr μ μ1 → lr_Rel μ1.1 1 A → lr_Sm g A → A 0 = g 0 → lr_n A 289 = lr_n g 289 → lr_G A → lr_N A → S2.Nodup → (∀ s, s ∈ S2 → s ∈ lr_S g ∧ lr_Le g A s) → (∀ i, i < S2.length → μ1.1 39 (k + i) = nI (lr_ky g (S2.getD i 0))) → lr_day g = upd (lr_gdels (g 0) (lr_hoF g) (lr_siF g) S2 A) 0 (nI (lr_n g 0 + 1)) → pm_V mi_X5_endDay ((fun v μ2 => v = none ∧ lr_fr μ μ2 ∧ lr_Rel μ2.1 1 (lr_day g)), pm_NX, fun _ _ _ => True) 0 0 73 [some (.ref 1), some (.int (nI (lr_S g).length)), some (.int (nI k)), none] [] μ1 := by
    intro S2
    induction S2 with
    | nil =>
      intro k A μ1 hk hf hR1 hSm h0 hn hA hN hnd hmem hAr hday
      obtain rfl : k = (lr_S g).length := by simpa using hk
      refine e_X5_endDay2 _ μ1 hR1 hA (by omega) (fun μ2 hf2 hr2 => ⟨rfl, hf.tr hf2, ?_⟩)
      rw [hday]
      rw [show lr_n A 0 = lr_n g 0 from by unfold lr_n; rw [h0]] at hr2
      exact hr2
    | cons s S2 ih =>
      intro k A μ1 hk hf hR1 hSm h0 hn hA hN hnd hmem hAr hday
      rw [List.length_cons] at hk
      rw [List.nodup_cons] at hnd
      obtain ⟨hsS, hsL⟩ := hmem s (List.mem_cons_self ..)
      obtain ⟨hs, hd⟩ := lr_S_mem.mp hsS
      have hw : A (300 + 11 * s) = -1 := by rw [hsL.at_ (by omega) (by omega)]; exact lr_wait_300 hC hs (lr_due_wt hd)
      have hok := lr_gdel_ok hG hSm h0 hA hN hs hn hsL hd hw
      have hq := hAr 0 (by rw [List.length_cons]; omega)
      rw [Nat.add_zero, List.getD_cons_zero] at hq
      have e0 : nI (lr_n A 0) = g 0 := by rw [← lr_gT hA]; exact h0
      have eh : lr_hoF A s = lr_hoF g s := lr_hoF_cg hG hSm h0 hs hsL
      have es : lr_siF A s = lr_siF g s := lr_siF_cg hG hSm h0 hs hsL
      refine s_X5_endDay2 (l := s) (q := lr_ky g s) _ μ1 hR1 hA hN (by omega) (by omega) hq (by have := lr_ky_lt hG hs; omega) (lr_ky_mod (by omega)) (by rw [hn]; exact hs) hok.2.2 (fun μ2 hf2 hr2 => ?_)
      rw [e0, eh, es] at hr2
      refine ih (k + 1) _ μ2 (by omega) (hf.tr hf2.1) hr2 (hSm.tr lr_gdel_sm) (by rw [lr_gdel_o (by omega) (by omega)]; exact h0) (by show (lr_gdel A s (g 0) (lr_hoF g s) (lr_siF g s) 289).toNatClampNeg = _; rw [lr_gdel_o (by omega) (by omega)]; exact hn) hok.1 hok.2.1 hnd.2 (fun t ht => ?_) (fun i hi => ?_) hday
      · obtain ⟨q1, q2⟩ := hmem t (List.mem_cons_of_mem _ ht)
        have : t ≠ s := fun e => hnd.1 (e ▸ ht)
        exact ⟨q1, q2.tr (fun c hc => lr_gdel_o (by omega) (by omega))⟩
      · rw [hf2.2]
        have q := hAr (i + 1) (by rw [List.length_cons]; omega)
        rw [List.getD_cons_succ] at q
        rw [show k + 1 + i = k + (i + 1) from by omega]; exact q
  -- the first loop
  have h1 : ∀ n k : Nat, k + n = lr_n g 289 → ∀ μ1, lr_fr μ μ1 → lr_Rel μ1.1 1 (lr_pc g k) → lr_Ar (μ1.1 39) ((lr_ord g k).map (lr_ky g)) → pm_V mi_X5_endDay ((fun v μ2 => v = none ∧ lr_fr μ μ2 ∧ lr_Rel μ2.1 1 (lr_day g)), pm_NX, fun _ _ _ => True) 0 0 4 [some (.ref 1), some (.int (nI (lr_ord g k).length)), some (.int (nI k)), none] [] μ1 := by
    intro n
    induction n with
    | zero =>
      intro k hk μ1 hf hR1 hA
      obtain rfl : k = lr_n g 289 := by omega
      have hGp := lr_pc_G hG hW (lr_n g 289) (Nat.le_refl _)
      have e289 : lr_n (lr_pc g (lr_n g 289)) 289 = lr_n g 289 := lr_pc_n (by omega)
      have q := e_X5_endDay1 (n := (lr_S g).length) _ μ1 hR1 hGp (h2 (lr_S g) 0 (lr_pc g (lr_n g 289)) μ1 (Nat.zero_add _) hf hR1 lr_pc_sm (lr_pc_o _ _ (by omega)) e289 hGp ?_ (lr_S_nd hG) (fun s hs => ⟨hs, ?_⟩) (fun i hi => ?_) (lr_day_gdels hI0))
      · rw [e289] at q; exact q
      · refine (hC.N hG).cg (lr_pc_o _ _ (by omega)) (lr_pc_o _ _ (by omega)) (fun i hi => ?_)
        have q := (lr_pc_at hG _ (Nat.le_refl _) i hi).at_ (x := 300 + 11 * i) (by omega) (by omega)
        rw [q]; split
        · rfl
        · exact lr_one_300
      · obtain ⟨q1, q2⟩ := lr_S_mem.mp hs
        have q := lr_pc_at hG _ (Nat.le_refl _) s q1
        rw [if_pos q2] at q
        exact q
      · rw [Nat.zero_add, hA i (by rw [List.length_map]; exact hi), (lr_getD_map (K := lr_ky g) (lr_ord g (lr_n g 289)) i hi).1]; rfl
    | succ n ih =>
      intro k hk μ1 hf hR1 hA
      have hGp := lr_pc_G hG hW k (by omega)
      have hle : lr_Le g (lr_pc g k) k := fun c hc => lr_pc_o k _ (by omega)
      have ekd := lr_due_cg hG lr_pc_sm (lr_pc_o k 0 (by omega)) (show k < lr_n g 289 by omega) hle
      have ekk := lr_ky_cg hG lr_pc_sm (lr_pc_o k 0 (by omega)) (show k < lr_n g 289 by omega) hle
      have hlk : (lr_ord g k).length ≤ k := by rw [lr_ord_len]; exact lr_cnt_le _ _
      refine s_X5_endDay1 (L := (lr_ord g k).map (lr_ky g)) _ μ1 hR1 hGp (by rw [lr_pc_n (by omega)]; omega) (by rw [List.length_map]) (by omega) (fun i hi => ?_) (lr_ord_pw (by omega)) hA (fun h => ?_) (fun hd μ2 hf2 hr2 hA2 => ?_) (fun hd μ2 hf2 hr2 => ?_)
      · obtain ⟨q1, q2⟩ := lr_getD_map (K := lr_ky g) (lr_ord g k) i hi
        rw [q1]
        have := lr_ky_lt hG (l := (lr_ord g k).getD i 0) (by have := (lr_ord_mem.mp q2).1; omega)
        omega
      · rw [lr_pc_o k _ (by omega)] at h ⊢
        exact hW k (by omega) h
      · have eo : lr_ord g (k + 1) = lr_ins (lr_ky g) k (lr_ord g k) := by simp only [lr_ord]; rw [if_pos (by rw [← ekd]; exact hd)]
        have ep : lr_pc g (k + 1) = lr_pc g k := by simp only [lr_pc]; rw [if_pos hd]
        have q := ih (k + 1) (by omega) μ2 (hf.tr hf2) (by rw [ep]; exact hr2) (by rw [eo, lr_ins_map, ← ekk]; rw [ekk] at hA2 ⊢; exact hA2)
        rw [eo, lr_ins_len] at q
        exact q
      · have eo : lr_ord g (k + 1) = lr_ord g k := by simp only [lr_ord]; rw [if_neg (by rw [← ekd, hd]; decide)]
        have ep : lr_pc g (k + 1) = lr_one (lr_pc g k) k := by simp only [lr_pc]; rw [if_neg (by rw [hd]; decide)]
        have q := ih (k + 1) (by omega) μ2 (hf.tr hf2.1) (by rw [ep]; exact hr2) (by rw [eo, hf2.2]; exact hA)
        rw [eo] at q
        exact q
  refine pm_bl [(.iconst 0, 1, 0, 0, 0), (.istore_n 1, 1, 1, 0, 0), (.iconst 0, 1, 0, 0, 0), (.istore_n 2, 1, 2, 0, 0)] (pc1 := 4) (lo1 := [some (.ref 1), some (.int 0), some (.int 0), none]) (st1 := []) (μ1 := μ) (vc := True) rfl (by decide +kernel) rfl trivial ?_
  exact h1 (lr_n g 289) 0 (Nat.zero_add _) μ lr_fr.rf hR (fun i hi => absurd hi (Nat.not_lt_zero _))
