/-! a static call of a method with an exception table; the wrappers of the law as callees -/
def pm_CalH (mi : pm_Mi) (n : Nat) : Prop := Cond.codeWith (pm_y mi) (pm_cc mi) (pm_nL mi) (pm_rt mi) (pm_hh mi) ∈ pm_good ∧ Cond.initialized (pm_y mi).cls ∈ pm_good ∧ (pm_hh mi).isEmpty = false ∧ ((pm_y mi).cls ≠ "java/lang/invoke/MethodHandle" ∧ (pm_y mi).cls ≠ "java/lang/invoke/VarHandle" ∧ (parseMethodDescriptor (pm_y mi).desc).map (fun d => d.parameters.length) = some n) ∧ Cond.static (pm_y mi) ∈ pm_good
section PMCH
variable {mi : pm_Mi} {T : pm_Tg} {kc ks pc : Nat} {lo : List (Option Value)} {st : List Value} {μ : pm_Mm}
theorem pm_callSH (mi2 : pm_Mi) {ix n : Nat} {As rest : List Value} {P2 : Option Value → pm_Mm → Prop} {X2 : String → pm_Mm → Prop} (hM : pm_CT mi2 As μ P2 X2) (hcal : pm_CalH mi2 n) (hl : Cond.methodLink (pm_R (pm_id mi)) ix (pm_y mi2) ∈ pm_good) (hf : pm_fit mi mi2 kc ks = true) (hh : pm_hh mi = [])
    (hd : decode (pm_cc mi) pc = .ok (.invokestatic ix, 3)) (hn : As.length = n) (hst0 : st = As.reverse ++ rest) (hW : (rest.map fun v => v.category).sum ≤ 8)
    (kx : ∀ E μ', X2 E μ' → T.2.1 E μ') (k : ∀ v μ', P2 v μ' → pm_V mi T (kc + (pm_rm mi2).cells) (ks + (pm_rm mi2).slots) (pc + 3) lo (v.toList ++ rest) μ') : pm_V mi T kc ks pc lo st μ := by
  intro p l e s m args below meth c D tc ad A hO H locs cells slots ls hc hs hP hD hS hlv
  obtain ⟨hx, hb, hml, hown, hts, hr, hlk, htr, hst, hA, htab, hZ⟩ := id hO
  obtain ⟨hK, hNw, hStr, hCs, hDc, hNc, hU, hN⟩ := id hst
  have hf2 := hf
  simp only [pm_fit, Bool.and_eq_true, decide_eq_true_eq] at hf2
  have hsub := pm_sub hD hS hA
  obtain ⟨hc1, hc2, hc3, hc4, hc5⟩ := hcal
  have hws : pm_wsy mi2 = Cond.codeWith (pm_y mi2) (pm_cc mi2) (pm_nL mi2) (pm_rt mi2) (pm_hh mi2) :: pm_good := by unfold pm_wsy; rw [hc3]; rfl
  have hgi : GoodIn pm_good (va_wsS (pm_R (pm_id mi)) ix (pm_y mi2) (pm_wsy mi2)) := by
    intro w hw
    unfold va_wsS at hw
    rw [hws] at hw
    simp only [List.cons_append, List.nil_append, List.mem_cons] at hw
    rcases hw with rfl | rfl | rfl | rfl | hw
    · exact pm_good_self _ hl
    · exact pm_good_self _ hc5
    · exact pm_good_self _ hc2
    · exact pm_good_self _ hc1
    · exact pm_good_self _ hw
  have hcw := vx_cwSW (s := s) (args := args) (R := pm_rm mi) (own := pm_R (pm_id mi)) (index := ix) (mc := (pm_rm mi2).cells) (ms := (pm_rm mi2).slots) (rm := pm_rm mi2) n hts hgi hws rfl rfl hc4 ⟨hf2.1, hf2.2.1⟩
  have hrun := vx_runSX (hh := pm_hh mi2) (Ts := pm_good) (own := pm_R (pm_id mi)) (As := As.map (pm_rv ad)) (rest := rest.map (pm_rv ad)) (g := F0 m pc ls (st.map (pm_rv ad))) (H := H) (locs := locs) (cells := cells) (slots := slots) (e := e) (below := below) (meth := meth) ⟨hx, hb, hml, hown, hts⟩ (hM l D tc ad H.size htr) hcw
    ⟨pm_Pc_blind, fun U hU hW => ⟨rfl, by rw [hU], by rw [hU]; exact hP, hD.weaken (fun _ _ _ _ => trivial), hst.go hW hU hS hsub⟩⟩ rfl (by rw [List.length_map]; exact hn) hlv.1 (by rw [hst0, List.map_append, List.map_reverse])
    (by rw [pm_cats]; simpa [JFrame.monitorRoom] using hW) hd ⟨Nat.le_trans (Nat.add_le_add_right hc _) hf2.2.2.1, Nat.le_trans (Nat.add_le_add_right hs _) hf2.2.2.2⟩
  intro T0 hT0 X0
  rcases hrun T0 hT0 X0 with ⟨v, st₀, t, T', L, h0, X', hL, e1, e2, ⟨⟨v', μ', hv, hp, hP2, hD2⟩, hF⟩, stp⟩ | ⟨q, st₀, t, T', L, E, ce, h0, X', hL, e1, e2, ⟨⟨μ', hp, hP2, hD2⟩, hF⟩, hce, hcv, hcl, stp⟩
  · have hv2 : v = v'.map (pm_rv ad) := by injection hv
    subst hv2
    obtain ⟨k1, k2, k3⟩ := vx_keep h0 e1 hS (fun q _ h => hsub q h) hsub hL hF
    obtain ⟨t2, a1, b1⟩ := k v' μ' hp p l e s m args below meth c D tc ad A hO T'.heap (locs ++ L) _ _ ls (Nat.add_le_add_right hc _) (Nat.add_le_add_right hs _) (by rw [e1]; exact hP2) (hD2.weaken (fun _ _ _ h => hsub _ h)) k3 hlv T' rfl X'
    rw [← pm_stk] at a1
    exact ⟨t2, stp t2 a1, b1⟩
  · obtain ⟨k1, k2, k3⟩ := vx_keep h0 e1 hS (fun q _ h => hsub q h) hsub hL hF
    obtain ⟨t2, a1, b1⟩ := vx_out (p := p) (l := l) (e := e) (R := pm_rm mi) (s := s) (m := m) (args := args) (below := below) (meth := meth) (c := c) (H := T'.heap) (locs := locs ++ L) (ls := ls) (rest := rest.map (pm_rv ad)) (pc := pc) (free := A) (Qc := pm_Qc D tc ad A T.1) (XC := pm_XC D tc ad A T.2.1) (mc := (pm_rm mi).cells) (ms := (pm_rm mi).slots) (by rw [htab, hh]; intro x hx; cases hx) hlk (by rw [e1]; exact hce) hcv hcl (fun t3 ht3 _ => ⟨⟨μ', kx E μ' hp, by rw [ht3, e1]; exact hP2, hD2.weaken (fun _ _ _ h => hsub _ h)⟩, k3.F ht3⟩) k3.2.2 (Nat.le_trans (Nat.add_le_add_right hc _) hf2.2.2.1) (Nat.le_trans (Nat.add_le_add_right hs _) hf2.2.2.2) T' rfl X'
    exact ⟨t2, stp.trans a1, b1⟩
end PMCH
theorem cal_L_addHouse : pm_CalH mi_L_addHouse 4 := ⟨pm_tab (i := 394) (by decide +kernel) rfl, pm_tab (i := 0) (by decide +kernel) rfl, rfl, ⟨by decide +kernel, by decide +kernel, by decide +kernel⟩, pm_tab (i := 393) (by decide +kernel) rfl⟩
theorem cal_L_addPerson : pm_CalH mi_L_addPerson 3 := ⟨pm_tab (i := 518) (by decide +kernel) rfl, pm_tab (i := 0) (by decide +kernel) rfl, rfl, ⟨by decide +kernel, by decide +kernel, by decide +kernel⟩, pm_tab (i := 517) (by decide +kernel) rfl⟩
theorem cal_L_addWalk : pm_CalH mi_L_addWalk 7 := ⟨pm_tab (i := 571) (by decide +kernel) rfl, pm_tab (i := 0) (by decide +kernel) rfl, rfl, ⟨by decide +kernel, by decide +kernel, by decide +kernel⟩, pm_tab (i := 570) (by decide +kernel) rfl⟩
theorem cal_L_walkOf : pm_CalH mi_L_walkOf 3 := ⟨pm_tab (i := 604) (by decide +kernel) rfl, pm_tab (i := 0) (by decide +kernel) rfl, rfl, ⟨by decide +kernel, by decide +kernel, by decide +kernel⟩, pm_tab (i := 603) (by decide +kernel) rfl⟩
theorem cal_L_stop : pm_CalH mi_L_stop 4 := ⟨pm_tab (i := 612) (by decide +kernel) rfl, pm_tab (i := 0) (by decide +kernel) rfl, rfl, ⟨by decide +kernel, by decide +kernel, by decide +kernel⟩, pm_tab (i := 611) (by decide +kernel) rfl⟩
theorem cal_L_stopIndex : pm_CalH mi_L_stopIndex 3 := ⟨pm_tab (i := 649) (by decide +kernel) rfl, pm_tab (i := 0) (by decide +kernel) rfl, rfl, ⟨by decide +kernel, by decide +kernel, by decide +kernel⟩, pm_tab (i := 648) (by decide +kernel) rfl⟩
theorem cal_L_redirectPerson : pm_CalH mi_L_redirectPerson 6 := ⟨pm_tab (i := 658) (by decide +kernel) rfl, pm_tab (i := 0) (by decide +kernel) rfl, rfl, ⟨by decide +kernel, by decide +kernel, by decide +kernel⟩, pm_tab (i := 657) (by decide +kernel) rfl⟩
theorem cal_L_redirectHouse : pm_CalH mi_L_redirectHouse 6 := ⟨pm_tab (i := 699) (by decide +kernel) rfl, pm_tab (i := 0) (by decide +kernel) rfl, rfl, ⟨by decide +kernel, by decide +kernel, by decide +kernel⟩, pm_tab (i := 698) (by decide +kernel) rfl⟩
theorem cal_L_dropRedirect : pm_CalH mi_L_dropRedirect 3 := ⟨pm_tab (i := 728) (by decide +kernel) rfl, pm_tab (i := 0) (by decide +kernel) rfl, rfl, ⟨by decide +kernel, by decide +kernel, by decide +kernel⟩, pm_tab (i := 727) (by decide +kernel) rfl⟩
theorem cal_L_way : pm_CalH mi_L_way 5 := ⟨pm_tab (i := 744) (by decide +kernel) rfl, pm_tab (i := 0) (by decide +kernel) rfl, rfl, ⟨by decide +kernel, by decide +kernel, by decide +kernel⟩, pm_tab (i := 743) (by decide +kernel) rfl⟩
theorem cal_L_hold : pm_CalH mi_L_hold 4 := ⟨pm_tab (i := 770) (by decide +kernel) rfl, pm_tab (i := 0) (by decide +kernel) rfl, rfl, ⟨by decide +kernel, by decide +kernel, by decide +kernel⟩, pm_tab (i := 769) (by decide +kernel) rfl⟩
theorem cal_L_allow : pm_CalH mi_L_allow 5 := ⟨pm_tab (i := 778) (by decide +kernel) rfl, pm_tab (i := 0) (by decide +kernel) rfl, rfl, ⟨by decide +kernel, by decide +kernel, by decide +kernel⟩, pm_tab (i := 777) (by decide +kernel) rfl⟩
theorem cal_L_setLimit : pm_CalH mi_L_setLimit 4 := ⟨pm_tab (i := 795) (by decide +kernel) rfl, pm_tab (i := 0) (by decide +kernel) rfl, rfl, ⟨by decide +kernel, by decide +kernel, by decide +kernel⟩, pm_tab (i := 794) (by decide +kernel) rfl⟩
theorem cal_L_leave : pm_CalH mi_L_leave 5 := ⟨pm_tab (i := 803) (by decide +kernel) rfl, pm_tab (i := 0) (by decide +kernel) rfl, rfl, ⟨by decide +kernel, by decide +kernel, by decide +kernel⟩, pm_tab (i := 802) (by decide +kernel) rfl⟩
theorem cal_L_signer : pm_CalH mi_L_signer 4 := ⟨pm_tab (i := 819) (by decide +kernel) rfl, pm_tab (i := 0) (by decide +kernel) rfl, rfl, ⟨by decide +kernel, by decide +kernel, by decide +kernel⟩, pm_tab (i := 818) (by decide +kernel) rfl⟩
theorem cal_L_residents : pm_CalH mi_L_residents 5 := ⟨pm_tab (i := 838) (by decide +kernel) rfl, pm_tab (i := 0) (by decide +kernel) rfl, rfl, ⟨by decide +kernel, by decide +kernel, by decide +kernel⟩, pm_tab (i := 837) (by decide +kernel) rfl⟩
theorem cal_L_addLetter : pm_CalH mi_L_addLetter 5 := ⟨pm_tab (i := 849) (by decide +kernel) rfl, pm_tab (i := 0) (by decide +kernel) rfl, rfl, ⟨by decide +kernel, by decide +kernel, by decide +kernel⟩, pm_tab (i := 848) (by decide +kernel) rfl⟩
theorem cal_L_append : pm_CalH mi_L_append 2 := ⟨pm_tab (i := 861) (by decide +kernel) rfl, pm_tab (i := 0) (by decide +kernel) rfl, rfl, ⟨by decide +kernel, by decide +kernel, by decide +kernel⟩, pm_tab (i := 860) (by decide +kernel) rfl⟩
theorem cal_L_arrive : pm_CalH mi_L_arrive 2 := ⟨pm_tab (i := 873) (by decide +kernel) rfl, pm_tab (i := 0) (by decide +kernel) rfl, rfl, ⟨by decide +kernel, by decide +kernel, by decide +kernel⟩, pm_tab (i := 872) (by decide +kernel) rfl⟩
theorem cal_L_refusal : pm_CalH mi_L_refusal 2 := ⟨pm_tab (i := 917) (by decide +kernel) rfl, pm_tab (i := 0) (by decide +kernel) rfl, rfl, ⟨by decide +kernel, by decide +kernel, by decide +kernel⟩, pm_tab (i := 916) (by decide +kernel) rfl⟩
theorem cal_L_letter : pm_CalH mi_L_letter 4 := ⟨pm_tab (i := 925) (by decide +kernel) rfl, pm_tab (i := 0) (by decide +kernel) rfl, rfl, ⟨by decide +kernel, by decide +kernel, by decide +kernel⟩, pm_tab (i := 924) (by decide +kernel) rfl⟩
theorem cal_L_delivered : pm_CalH mi_L_delivered 3 := ⟨pm_tab (i := 1139) (by decide +kernel) rfl, pm_tab (i := 0) (by decide +kernel) rfl, rfl, ⟨by decide +kernel, by decide +kernel, by decide +kernel⟩, pm_tab (i := 1138) (by decide +kernel) rfl⟩
theorem cal_L_daysLeft : pm_CalH mi_L_daysLeft 3 := ⟨pm_tab (i := 1147) (by decide +kernel) rfl, pm_tab (i := 0) (by decide +kernel) rfl, rfl, ⟨by decide +kernel, by decide +kernel, by decide +kernel⟩, pm_tab (i := 1146) (by decide +kernel) rfl⟩
theorem cal_L_pass : pm_CalH mi_L_pass 3 := ⟨pm_tab (i := 1169) (by decide +kernel) rfl, pm_tab (i := 0) (by decide +kernel) rfl, rfl, ⟨by decide +kernel, by decide +kernel, by decide +kernel⟩, pm_tab (i := 1168) (by decide +kernel) rfl⟩
theorem cal_L_account : pm_CalH mi_L_account 3 := ⟨pm_tab (i := 1205) (by decide +kernel) rfl, pm_tab (i := 0) (by decide +kernel) rfl, rfl, ⟨by decide +kernel, by decide +kernel, by decide +kernel⟩, pm_tab (i := 1204) (by decide +kernel) rfl⟩
theorem cal_L_returned : pm_CalH mi_L_returned 3 := ⟨pm_tab (i := 1225) (by decide +kernel) rfl, pm_tab (i := 0) (by decide +kernel) rfl, rfl, ⟨by decide +kernel, by decide +kernel, by decide +kernel⟩, pm_tab (i := 1224) (by decide +kernel) rfl⟩
theorem cal_L_meanDays : pm_CalH mi_L_meanDays 2 := ⟨pm_tab (i := 1237) (by decide +kernel) rfl, pm_tab (i := 0) (by decide +kernel) rfl, rfl, ⟨by decide +kernel, by decide +kernel, by decide +kernel⟩, pm_tab (i := 1236) (by decide +kernel) rfl⟩
theorem cal_L_undo : pm_CalH mi_L_undo 2 := ⟨pm_tab (i := 1265) (by decide +kernel) rfl, pm_tab (i := 0) (by decide +kernel) rfl, rfl, ⟨by decide +kernel, by decide +kernel, by decide +kernel⟩, pm_tab (i := 1264) (by decide +kernel) rfl⟩
theorem cal_L_restore : pm_CalH mi_L_restore 1 := ⟨pm_tab (i := 1277) (by decide +kernel) rfl, pm_tab (i := 0) (by decide +kernel) rfl, rfl, ⟨by decide +kernel, by decide +kernel, by decide +kernel⟩, pm_tab (i := 1276) (by decide +kernel) rfl⟩
