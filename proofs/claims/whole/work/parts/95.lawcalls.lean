/-! the law: each call of the class, its throws told by a number -/
section PML
variable {mi : pm_Mi} {T : pm_Tg} {kc ks pc : Nat} {lo : List (Option Value)} {st : List Value} {μ : pm_Mm}
theorem pm_s_lconst0 (hd : decode (pm_cc mi) pc = .ok (.lconst 0, 1)) (k : pm_V mi T kc ks (pc + 1) lo (.long 0 :: st) μ) : pm_V mi T kc ks pc lo st μ := by
  intro p l e s m args below meth c D tc ad A hO H locs cells slots ls hc hs hP hD hS hlv
  obtain ⟨hx, hb, hml, hown, hts, hr, hlk, htr, hst, hA, htab, hZ⟩ := id hO
  exact lv_lconst hx hb hd rfl (k p l e s m args below meth c D tc ad A hO H locs cells slots ls hc hs hP hD hS hlv)
theorem pm_s_lconst1 (hd : decode (pm_cc mi) pc = .ok (.lconst 1, 1)) (k : pm_V mi T kc ks (pc + 1) lo (.long 1 :: st) μ) : pm_V mi T kc ks pc lo st μ := by
  intro p l e s m args below meth c D tc ad A hO H locs cells slots ls hc hs hP hD hS hlv
  obtain ⟨hx, hb, hml, hown, hts, hr, hlk, htr, hst, hA, htab, hZ⟩ := id hO
  exact lv_lconst hx hb hd rfl (k p l e s m args below meth c D tc ad A hO H locs cells slots ls hc hs hP hD hS hlv)
end PML
abbrev mi_L_addHouse : pm_Mi := (11, yL_addHouse, cL_addHouse, 5, some .int, { frames := 7, cells := 1, slots := 6, locals := 186 }, [(0, 10, 13, 13), (0, 10, 17, 15)])
abbrev mi_L_addPerson : pm_Mi := (11, yL_addPerson, cL_addPerson, 4, some .int, { frames := 8, cells := 2, slots := 12, locals := 185 }, [(0, 9, 12, 21), (0, 9, 15, 15)])
abbrev mi_L_addWalk : pm_Mi := (11, yL_addWalk, cL_addWalk, 8, some .int, { frames := 7, cells := 1, slots := 6, locals := 190 }, [(0, 16, 19, 13), (0, 16, 23, 15)])
abbrev mi_L_walkOf : pm_Mi := (11, yL_walkOf, cL_walkOf, 4, some .int, { frames := 8, cells := 1, slots := 6, locals := 132 }, [(0, 9, 12, 21)])
abbrev mi_L_stop : pm_Mi := (11, yL_stop, cL_stop, 5, some .int, { frames := 7, cells := 1, slots := 6, locals := 137 }, [(0, 10, 13, 21), (0, 10, 17, 33)])
abbrev mi_L_stopIndex : pm_Mi := (11, yL_stopIndex, cL_stopIndex, 4, some .int, { frames := 8, cells := 2, slots := 12, locals := 132 }, [(0, 9, 12, 21), (0, 9, 15, 33)])
abbrev mi_L_redirectPerson : pm_Mi := (11, yL_redirectPerson, cL_redirectPerson, 7, some .int, { frames := 8, cells := 4, slots := 24, locals := 188 }, [(0, 14, 17, 21), (0, 14, 21, 13), (0, 14, 25, 42)])
abbrev mi_L_redirectHouse : pm_Mi := (11, yL_redirectHouse, cL_redirectHouse, 7, some .int, { frames := 8, cells := 5, slots := 30, locals := 188 }, [(0, 14, 17, 21), (0, 14, 21, 13), (0, 14, 25, 42)])
abbrev mi_L_dropRedirect : pm_Mi := (11, yL_dropRedirect, cL_dropRedirect, 4, some .int, { frames := 8, cells := 2, slots := 12, locals := 185 }, [(0, 9, 12, 21), (0, 9, 15, 42)])
abbrev mi_L_way : pm_Mi := (11, yL_way, cL_way, 6, some .int, { frames := 8, cells := 3, slots := 18, locals := 135 }, [(0, 12, 15, 21), (0, 12, 19, 13), (0, 12, 23, 33)])
abbrev mi_L_hold : pm_Mi := (11, yL_hold, cL_hold, 5, some .int, { frames := 8, cells := 2, slots := 12, locals := 187 }, [(0, 10, 13, 21), (0, 10, 17, 13)])
abbrev mi_L_allow : pm_Mi := (11, yL_allow, cL_allow, 6, some .int, { frames := 8, cells := 3, slots := 18, locals := 188 }, [(0, 19, 22, 21), (0, 19, 26, 13)])
abbrev mi_L_setLimit : pm_Mi := (11, yL_setLimit, cL_setLimit, 5, some .int, { frames := 8, cells := 2, slots := 12, locals := 187 }, [(0, 10, 13, 21), (0, 10, 17, 13)])
abbrev mi_L_leave : pm_Mi := (11, yL_leave, cL_leave, 6, some .int, { frames := 8, cells := 2, slots := 12, locals := 187 }, [(0, 12, 15, 21), (0, 12, 19, 13)])
abbrev mi_L_signer : pm_Mi := (11, yL_signer, cL_signer, 5, some .int, { frames := 8, cells := 3, slots := 18, locals := 142 }, [(0, 10, 13, 21), (0, 10, 17, 13), (0, 10, 21, 33)])
abbrev mi_L_residents : pm_Mi := (11, yL_residents, cL_residents, 6, some .int, { frames := 8, cells := 3, slots := 18, locals := 143 }, [(0, 12, 15, 21), (0, 12, 19, 13)])
abbrev mi_L_addLetter : pm_Mi := (11, yL_addLetter, cL_addLetter, 6, some .int, { frames := 8, cells := 3, slots := 18, locals := 187 }, [(0, 12, 15, 21), (0, 12, 19, 13), (0, 12, 23, 42)])
abbrev mi_L_append : pm_Mi := (11, yL_append, cL_append, 3, some .int, { frames := 7, cells := 1, slots := 6, locals := 111 }, [(0, 5, 8, 15)])
abbrev mi_L_arrive : pm_Mi := (11, yL_arrive, cL_arrive, 3, some .int, { frames := 8, cells := 2, slots := 12, locals := 186 }, [(0, 8, 11, 13), (0, 8, 14, 42)])
abbrev mi_L_refusal : pm_Mi := (11, yL_refusal, cL_refusal, 3, some .int, { frames := 7, cells := 1, slots := 6, locals := 110 }, [(0, 8, 11, 33)])
abbrev mi_L_letter : pm_Mi := (11, yL_letter, cL_letter, 5, some .int, { frames := 8, cells := 2, slots := 12, locals := 133 }, [(0, 10, 13, 21), (0, 10, 17, 13)])
abbrev mi_L_delivered : pm_Mi := (11, yL_delivered, cL_delivered, 4, some .int, { frames := 7, cells := 1, slots := 6, locals := 111 }, [(0, 9, 12, 33)])
abbrev mi_L_daysLeft : pm_Mi := (11, yL_daysLeft, cL_daysLeft, 4, some .int, { frames := 8, cells := 2, slots := 12, locals := 189 }, [(0, 9, 12, 21), (0, 9, 15, 15), (0, 9, 18, 33)])
abbrev mi_L_pass : pm_Mi := (11, yL_pass, cL_pass, 4, some .int, { frames := 8, cells := 1, slots := 6, locals := 188 }, [(0, 9, 12, 13)])
abbrev mi_L_account : pm_Mi := (11, yL_account, cL_account, 4, some .int, { frames := 7, cells := 1, slots := 6, locals := 111 }, [(0, 9, 12, 13)])
abbrev mi_L_returned : pm_Mi := (11, yL_returned, cL_returned, 4, some .int, { frames := 7, cells := 1, slots := 6, locals := 111 }, [(0, 9, 12, 13)])
abbrev mi_L_meanDays : pm_Mi := (11, yL_meanDays, cL_meanDays, 3, some .int, { frames := 7, cells := 1, slots := 6, locals := 111 }, [(0, 7, 10, 117)])
abbrev mi_L_undo : pm_Mi := (11, yL_undo, cL_undo, 3, some .int, { frames := 7, cells := 1, slots := 6, locals := 184 }, [(0, 8, 11, 15)])
abbrev mi_L_restore : pm_Mi := (11, yL_restore, cL_restore, 2, some .int, { frames := 7, cells := 1, slots := 6, locals := 163 }, [(0, 4, 7, 15)])
set_option maxHeartbeats 4000000 in
set_option maxRecDepth 100000 in
theorem c_L_addHouse {x0 x1 : Int32} (μ : pm_Mm) {P2 : Option Value → pm_Mm → Prop} {X2 : String → pm_Mm → Prop} (hC : pm_CT mi_X9_addHouse [.ref 0, .int x0, .int x1] μ P2 X2) (P : Option Value → pm_Mm → Prop) (hP : ∀ v M, P2 v M → ∃ x : Int32, v = some (.int x) ∧ P (some (.int 0)) (pm_setL M 0 x.toInt64)) (hX : ∀ E M, X2 E M → (E = "java/lang/IllegalArgumentException" ∧ P (some (.int 1)) M) ∨ (E = "java/lang/IllegalStateException" ∧ P (some (.int 2)) M)) : pm_CT mi_L_addHouse [.ref 0, .int x0, .int x1, .ref 55] μ P pm_NX := by
  refine pm_CT_ofH (lo := [some (.ref 0), some (.int x0), some (.int x1), some (.ref 55), none]) (by decide +kernel) rfl rfl (by intro v hv; simp at hv; rcases hv with rfl | rfl | rfl | rfl <;> rfl) (Nat.le_of_ble_eq_true rfl) rfl ?_
  refine pm_bl [(.aload_n 3, 1, 3, 0, 0), (.iconst 0, 1, 0, 0, 0), (.aload_n 0, 1, 0, 0, 0), (.iload_n 1, 1, 1, 0, 0), (.iload_n 2, 1, 2, 0, 0)] (pc1 := 5) (lo1 := [some (.ref 0), some (.int x0), some (.int x1), some (.ref 55), none]) (st1 := [.int x1, .int x0, .ref 0, .int 0, .ref 55]) (μ1 := μ) (vc := True) rfl (by decide +kernel) rfl trivial ?_
  refine pm_callVH mi_X9_addHouse (ix := 7) (b := 0) (ci := 9) (As := [.int x0, .int x1]) (rest := [.int 0, .ref 55]) hC cal_X9_addHouse lk11_7 (by decide +kernel) (by decide +kernel) rfl rfl rfl rfl (Nat.le_of_ble_eq_true rfl) ?_ ?_
  · intro E M hE
    rcases hX E M hE with ⟨rfl, h⟩ | ⟨rfl, h⟩
    · refine ⟨13, ⟨[], (0, 10, 13, 13), [(0, 10, 17, 15)], "java/lang/IllegalArgumentException", rfl, fun z hz => absurd hz (by simp), ⟨by decide, by decide⟩, by decide, pm_tab (i := 395) (by decide +kernel) rfl, by decide +kernel, rfl⟩, pm_q_astore (a := 4) (by decide +kernel) (by decide) rfl (by simp) ?_⟩
      show pm_V _ _ _ _ 15 [some (.ref 0), some (.int x0), some (.int x1), some (.ref 55), none] [] _
      refine pm_bl [(.iconst 1, 1, 0, 0, 1)] (pc1 := 16) (lo1 := [some (.ref 0), some (.int x0), some (.int x1), some (.ref 55), none]) (st1 := [.int 1]) (μ1 := M) (vc := True) rfl (by decide +kernel) rfl trivial ?_
      exact pm_iret (ty := .int) rfl rfl (by decide) (by decide) (by decide +kernel) h
    · refine ⟨17, ⟨[(0, 10, 13, 13)], (0, 10, 17, 15), [], "java/lang/IllegalStateException", rfl, fun z hz => by
        simp only [List.mem_cons, List.not_mem_nil, or_false] at hz
        rcases hz with rfl
        · exact ⟨by decide, "java/lang/IllegalArgumentException", pm_tab (i := 395) (by decide +kernel) rfl, by decide +kernel⟩, ⟨by decide, by decide⟩, by decide, pm_tab (i := 396) (by decide +kernel) rfl, by decide +kernel, rfl⟩, pm_q_astore (a := 4) (by decide +kernel) (by decide) rfl (by simp) ?_⟩
      show pm_V _ _ _ _ 19 [some (.ref 0), some (.int x0), some (.int x1), some (.ref 55), none] [] _
      refine pm_bl [(.iconst 2, 1, 0, 0, 2)] (pc1 := 20) (lo1 := [some (.ref 0), some (.int x0), some (.int x1), some (.ref 55), none]) (st1 := [.int 2]) (μ1 := M) (vc := True) rfl (by decide +kernel) rfl trivial ?_
      exact pm_iret (ty := .int) rfl rfl (by decide) (by decide) (by decide +kernel) h
  · intro v M hv
    obtain ⟨x, rfl, h⟩ := hP v M hv
    show pm_V _ _ _ _ 8 _ [.int x, .int 0, .ref 55] _
    refine pm_bl [(.i2l, 1, 0, 0, 0)] (pc1 := 9) (lo1 := [some (.ref 0), some (.int x0), some (.int x1), some (.ref 55), none]) (st1 := [.long x.toInt64, .int 0, .ref 55]) (μ1 := M) (vc := True) rfl (by decide +kernel) rfl trivial ?_
    refine pm_s_last (r := 55) (n := 1) rfl rfl (by unfold vp_in; decide) (by decide +kernel) ?_
    rw [show (0 : Int32).toNatClampNeg = 0 from by decide]
    refine pm_bl [(.goto 11, 3, 21, 0, 0), (.iconst 0, 1, 0, 0, 0)] (pc1 := 22) (lo1 := [some (.ref 0), some (.int x0), some (.int x1), some (.ref 55), none]) (st1 := [.int 0]) (μ1 := pm_setL M 0 x.toInt64) (vc := True) rfl (by decide +kernel) rfl trivial ?_
    exact pm_iret (ty := .int) rfl rfl (by decide) (by decide) (by decide +kernel) h
set_option maxHeartbeats 4000000 in
set_option maxRecDepth 100000 in
theorem c_L_addPerson {x0 : Int32} (μ : pm_Mm) {P2 : Option Value → pm_Mm → Prop} {X2 : String → pm_Mm → Prop} (hC : pm_CT mi_X9_addPerson [.ref 0, .int x0] μ P2 X2) (P : Option Value → pm_Mm → Prop) (hP : ∀ v M, P2 v M → ∃ x : Int32, v = some (.int x) ∧ P (some (.int 0)) (pm_setL M 0 x.toInt64)) (hX : ∀ E M, X2 E M → (E = "java/lang/IndexOutOfBoundsException" ∧ P (some (.int 1)) M) ∨ (E = "java/lang/IllegalStateException" ∧ P (some (.int 2)) M)) : pm_CT mi_L_addPerson [.ref 0, .int x0, .ref 55] μ P pm_NX := by
  refine pm_CT_ofH (lo := [some (.ref 0), some (.int x0), some (.ref 55), none]) (by decide +kernel) rfl rfl (by intro v hv; simp at hv; rcases hv with rfl | rfl | rfl <;> rfl) (Nat.le_of_ble_eq_true rfl) rfl ?_
  refine pm_bl [(.aload_n 2, 1, 2, 0, 0), (.iconst 0, 1, 0, 0, 0), (.aload_n 0, 1, 0, 0, 0), (.iload_n 1, 1, 1, 0, 0)] (pc1 := 4) (lo1 := [some (.ref 0), some (.int x0), some (.ref 55), none]) (st1 := [.int x0, .ref 0, .int 0, .ref 55]) (μ1 := μ) (vc := True) rfl (by decide +kernel) rfl trivial ?_
  refine pm_callVH mi_X9_addPerson (ix := 17) (b := 0) (ci := 9) (As := [.int x0]) (rest := [.int 0, .ref 55]) hC cal_X9_addPerson lk11_17 (by decide +kernel) (by decide +kernel) rfl rfl rfl rfl (Nat.le_of_ble_eq_true rfl) ?_ ?_
  · intro E M hE
    rcases hX E M hE with ⟨rfl, h⟩ | ⟨rfl, h⟩
    · refine ⟨12, ⟨[], (0, 9, 12, 21), [(0, 9, 15, 15)], "java/lang/IndexOutOfBoundsException", rfl, fun z hz => absurd hz (by simp), ⟨by decide, by decide⟩, by decide, pm_tab (i := 519) (by decide +kernel) rfl, by decide +kernel, rfl⟩, pm_q_astore_n (j := 3) (a := 3) (by decide +kernel) rfl (by decide) rfl (by simp) ?_⟩
      show pm_V _ _ _ _ 13 [some (.ref 0), some (.int x0), some (.ref 55), none] [] _
      refine pm_bl [(.iconst 1, 1, 0, 0, 1)] (pc1 := 14) (lo1 := [some (.ref 0), some (.int x0), some (.ref 55), none]) (st1 := [.int 1]) (μ1 := M) (vc := True) rfl (by decide +kernel) rfl trivial ?_
      exact pm_iret (ty := .int) rfl rfl (by decide) (by decide) (by decide +kernel) h
    · refine ⟨15, ⟨[(0, 9, 12, 21)], (0, 9, 15, 15), [], "java/lang/IllegalStateException", rfl, fun z hz => by
        simp only [List.mem_cons, List.not_mem_nil, or_false] at hz
        rcases hz with rfl
        · exact ⟨by decide, "java/lang/IndexOutOfBoundsException", pm_tab (i := 519) (by decide +kernel) rfl, by decide +kernel⟩, ⟨by decide, by decide⟩, by decide, pm_tab (i := 396) (by decide +kernel) rfl, by decide +kernel, rfl⟩, pm_q_astore_n (j := 3) (a := 3) (by decide +kernel) rfl (by decide) rfl (by simp) ?_⟩
      show pm_V _ _ _ _ 16 [some (.ref 0), some (.int x0), some (.ref 55), none] [] _
      refine pm_bl [(.iconst 2, 1, 0, 0, 2)] (pc1 := 17) (lo1 := [some (.ref 0), some (.int x0), some (.ref 55), none]) (st1 := [.int 2]) (μ1 := M) (vc := True) rfl (by decide +kernel) rfl trivial ?_
      exact pm_iret (ty := .int) rfl rfl (by decide) (by decide) (by decide +kernel) h
  · intro v M hv
    obtain ⟨x, rfl, h⟩ := hP v M hv
    show pm_V _ _ _ _ 7 _ [.int x, .int 0, .ref 55] _
    refine pm_bl [(.i2l, 1, 0, 0, 0)] (pc1 := 8) (lo1 := [some (.ref 0), some (.int x0), some (.ref 55), none]) (st1 := [.long x.toInt64, .int 0, .ref 55]) (μ1 := M) (vc := True) rfl (by decide +kernel) rfl trivial ?_
    refine pm_s_last (r := 55) (n := 1) rfl rfl (by unfold vp_in; decide) (by decide +kernel) ?_
    rw [show (0 : Int32).toNatClampNeg = 0 from by decide]
    refine pm_bl [(.goto 9, 3, 18, 0, 0), (.iconst 0, 1, 0, 0, 0)] (pc1 := 19) (lo1 := [some (.ref 0), some (.int x0), some (.ref 55), none]) (st1 := [.int 0]) (μ1 := pm_setL M 0 x.toInt64) (vc := True) rfl (by decide +kernel) rfl trivial ?_
    exact pm_iret (ty := .int) rfl rfl (by decide) (by decide) (by decide +kernel) h
set_option maxHeartbeats 4000000 in
set_option maxRecDepth 100000 in
theorem c_L_addWalk {x0 x1 x2 x3 x4 : Int32} (μ : pm_Mm) {P2 : Option Value → pm_Mm → Prop} {X2 : String → pm_Mm → Prop} (hC : pm_CT mi_X9_addWalk [.ref 0, .int x0, .int x1, .int x2, .int x3, .int x4] μ P2 X2) (P : Option Value → pm_Mm → Prop) (hP : ∀ v M, P2 v M → ∃ x : Int32, v = some (.int x) ∧ P (some (.int 0)) (pm_setL M 0 x.toInt64)) (hX : ∀ E M, X2 E M → (E = "java/lang/IllegalArgumentException" ∧ P (some (.int 1)) M) ∨ (E = "java/lang/IllegalStateException" ∧ P (some (.int 2)) M)) : pm_CT mi_L_addWalk [.ref 0, .int x0, .int x1, .int x2, .int x3, .int x4, .ref 55] μ P pm_NX := by
  refine pm_CT_ofH (lo := [some (.ref 0), some (.int x0), some (.int x1), some (.int x2), some (.int x3), some (.int x4), some (.ref 55), none]) (by decide +kernel) rfl rfl (by intro v hv; simp at hv; rcases hv with rfl | rfl | rfl | rfl | rfl | rfl | rfl <;> rfl) (Nat.le_of_ble_eq_true rfl) rfl ?_
  refine pm_bl [(.aload 6, 2, 6, 0, 0), (.iconst 0, 1, 0, 0, 0), (.aload_n 0, 1, 0, 0, 0), (.iload_n 1, 1, 1, 0, 0), (.iload_n 2, 1, 2, 0, 0), (.iload_n 3, 1, 3, 0, 0), (.iload 4, 2, 4, 0, 0), (.iload 5, 2, 5, 0, 0)] (pc1 := 11) (lo1 := [some (.ref 0), some (.int x0), some (.int x1), some (.int x2), some (.int x3), some (.int x4), some (.ref 55), none]) (st1 := [.int x4, .int x3, .int x2, .int x1, .int x0, .ref 0, .int 0, .ref 55]) (μ1 := μ) (vc := True) rfl (by decide +kernel) rfl trivial ?_
  refine pm_callVH mi_X9_addWalk (ix := 23) (b := 0) (ci := 9) (As := [.int x0, .int x1, .int x2, .int x3, .int x4]) (rest := [.int 0, .ref 55]) hC cal_X9_addWalk lk11_23 (by decide +kernel) (by decide +kernel) rfl rfl rfl rfl (Nat.le_of_ble_eq_true rfl) ?_ ?_
  · intro E M hE
    rcases hX E M hE with ⟨rfl, h⟩ | ⟨rfl, h⟩
    · refine ⟨19, ⟨[], (0, 16, 19, 13), [(0, 16, 23, 15)], "java/lang/IllegalArgumentException", rfl, fun z hz => absurd hz (by simp), ⟨by decide, by decide⟩, by decide, pm_tab (i := 395) (by decide +kernel) rfl, by decide +kernel, rfl⟩, pm_q_astore (a := 7) (by decide +kernel) (by decide) rfl (by simp) ?_⟩
      show pm_V _ _ _ _ 21 [some (.ref 0), some (.int x0), some (.int x1), some (.int x2), some (.int x3), some (.int x4), some (.ref 55), none] [] _
      refine pm_bl [(.iconst 1, 1, 0, 0, 1)] (pc1 := 22) (lo1 := [some (.ref 0), some (.int x0), some (.int x1), some (.int x2), some (.int x3), some (.int x4), some (.ref 55), none]) (st1 := [.int 1]) (μ1 := M) (vc := True) rfl (by decide +kernel) rfl trivial ?_
      exact pm_iret (ty := .int) rfl rfl (by decide) (by decide) (by decide +kernel) h
    · refine ⟨23, ⟨[(0, 16, 19, 13)], (0, 16, 23, 15), [], "java/lang/IllegalStateException", rfl, fun z hz => by
        simp only [List.mem_cons, List.not_mem_nil, or_false] at hz
        rcases hz with rfl
        · exact ⟨by decide, "java/lang/IllegalArgumentException", pm_tab (i := 395) (by decide +kernel) rfl, by decide +kernel⟩, ⟨by decide, by decide⟩, by decide, pm_tab (i := 396) (by decide +kernel) rfl, by decide +kernel, rfl⟩, pm_q_astore (a := 7) (by decide +kernel) (by decide) rfl (by simp) ?_⟩
      show pm_V _ _ _ _ 25 [some (.ref 0), some (.int x0), some (.int x1), some (.int x2), some (.int x3), some (.int x4), some (.ref 55), none] [] _
      refine pm_bl [(.iconst 2, 1, 0, 0, 2)] (pc1 := 26) (lo1 := [some (.ref 0), some (.int x0), some (.int x1), some (.int x2), some (.int x3), some (.int x4), some (.ref 55), none]) (st1 := [.int 2]) (μ1 := M) (vc := True) rfl (by decide +kernel) rfl trivial ?_
      exact pm_iret (ty := .int) rfl rfl (by decide) (by decide) (by decide +kernel) h
  · intro v M hv
    obtain ⟨x, rfl, h⟩ := hP v M hv
    show pm_V _ _ _ _ 14 _ [.int x, .int 0, .ref 55] _
    refine pm_bl [(.i2l, 1, 0, 0, 0)] (pc1 := 15) (lo1 := [some (.ref 0), some (.int x0), some (.int x1), some (.int x2), some (.int x3), some (.int x4), some (.ref 55), none]) (st1 := [.long x.toInt64, .int 0, .ref 55]) (μ1 := M) (vc := True) rfl (by decide +kernel) rfl trivial ?_
    refine pm_s_last (r := 55) (n := 1) rfl rfl (by unfold vp_in; decide) (by decide +kernel) ?_
    rw [show (0 : Int32).toNatClampNeg = 0 from by decide]
    refine pm_bl [(.goto 11, 3, 27, 0, 0), (.iconst 0, 1, 0, 0, 0)] (pc1 := 28) (lo1 := [some (.ref 0), some (.int x0), some (.int x1), some (.int x2), some (.int x3), some (.int x4), some (.ref 55), none]) (st1 := [.int 0]) (μ1 := pm_setL M 0 x.toInt64) (vc := True) rfl (by decide +kernel) rfl trivial ?_
    exact pm_iret (ty := .int) rfl rfl (by decide) (by decide) (by decide +kernel) h
set_option maxHeartbeats 4000000 in
set_option maxRecDepth 100000 in
theorem c_L_walkOf {x0 : Int32} (μ : pm_Mm) {P2 : Option Value → pm_Mm → Prop} {X2 : String → pm_Mm → Prop} (hC : pm_CT mi_X9_walkOf [.ref 0, .int x0] μ P2 X2) (P : Option Value → pm_Mm → Prop) (hP : ∀ v M, P2 v M → ∃ x : Int32, v = some (.int x) ∧ P (some (.int 0)) (pm_setL M 0 x.toInt64)) (hX : ∀ E M, X2 E M → (E = "java/lang/IndexOutOfBoundsException" ∧ P (some (.int 1)) M)) : pm_CT mi_L_walkOf [.ref 0, .int x0, .ref 55] μ P pm_NX := by
  refine pm_CT_ofH (lo := [some (.ref 0), some (.int x0), some (.ref 55), none]) (by decide +kernel) rfl rfl (by intro v hv; simp at hv; rcases hv with rfl | rfl | rfl <;> rfl) (Nat.le_of_ble_eq_true rfl) rfl ?_
  refine pm_bl [(.aload_n 2, 1, 2, 0, 0), (.iconst 0, 1, 0, 0, 0), (.aload_n 0, 1, 0, 0, 0), (.iload_n 1, 1, 1, 0, 0)] (pc1 := 4) (lo1 := [some (.ref 0), some (.int x0), some (.ref 55), none]) (st1 := [.int x0, .ref 0, .int 0, .ref 55]) (μ1 := μ) (vc := True) rfl (by decide +kernel) rfl trivial ?_
  refine pm_callVH mi_X9_walkOf (ix := 27) (b := 0) (ci := 9) (As := [.int x0]) (rest := [.int 0, .ref 55]) hC cal_X9_walkOf lk11_27 (by decide +kernel) (by decide +kernel) rfl rfl rfl rfl (Nat.le_of_ble_eq_true rfl) ?_ ?_
  · intro E M hE
    obtain ⟨rfl, h⟩ := hX E M hE
    refine ⟨12, ⟨[], (0, 9, 12, 21), [], "java/lang/IndexOutOfBoundsException", rfl, fun z hz => absurd hz (by simp), ⟨by decide, by decide⟩, by decide, pm_tab (i := 519) (by decide +kernel) rfl, by decide +kernel, rfl⟩, pm_q_astore_n (j := 3) (a := 3) (by decide +kernel) rfl (by decide) rfl (by simp) ?_⟩
    show pm_V _ _ _ _ 13 [some (.ref 0), some (.int x0), some (.ref 55), none] [] _
    refine pm_bl [(.iconst 1, 1, 0, 0, 1)] (pc1 := 14) (lo1 := [some (.ref 0), some (.int x0), some (.ref 55), none]) (st1 := [.int 1]) (μ1 := M) (vc := True) rfl (by decide +kernel) rfl trivial ?_
    exact pm_iret (ty := .int) rfl rfl (by decide) (by decide) (by decide +kernel) h
  · intro v M hv
    obtain ⟨x, rfl, h⟩ := hP v M hv
    show pm_V _ _ _ _ 7 _ [.int x, .int 0, .ref 55] _
    refine pm_bl [(.i2l, 1, 0, 0, 0)] (pc1 := 8) (lo1 := [some (.ref 0), some (.int x0), some (.ref 55), none]) (st1 := [.long x.toInt64, .int 0, .ref 55]) (μ1 := M) (vc := True) rfl (by decide +kernel) rfl trivial ?_
    refine pm_s_last (r := 55) (n := 1) rfl rfl (by unfold vp_in; decide) (by decide +kernel) ?_
    rw [show (0 : Int32).toNatClampNeg = 0 from by decide]
    refine pm_bl [(.goto 6, 3, 15, 0, 0), (.iconst 0, 1, 0, 0, 0)] (pc1 := 16) (lo1 := [some (.ref 0), some (.int x0), some (.ref 55), none]) (st1 := [.int 0]) (μ1 := pm_setL M 0 x.toInt64) (vc := True) rfl (by decide +kernel) rfl trivial ?_
    exact pm_iret (ty := .int) rfl rfl (by decide) (by decide) (by decide +kernel) h
set_option maxHeartbeats 4000000 in
set_option maxRecDepth 100000 in
theorem c_L_stop {x0 x1 : Int32} (μ : pm_Mm) {P2 : Option Value → pm_Mm → Prop} {X2 : String → pm_Mm → Prop} (hC : pm_CT mi_X9_stop [.ref 0, .int x0, .int x1] μ P2 X2) (P : Option Value → pm_Mm → Prop) (hP : ∀ v M, P2 v M → ∃ x : Int32, v = some (.int x) ∧ P (some (.int 0)) (pm_setL M 0 x.toInt64)) (hX : ∀ E M, X2 E M → (E = "java/lang/IndexOutOfBoundsException" ∧ P (some (.int 1)) M) ∨ (E = "java/util/NoSuchElementException" ∧ P (some (.int 2)) M)) : pm_CT mi_L_stop [.ref 0, .int x0, .int x1, .ref 55] μ P pm_NX := by
  refine pm_CT_ofH (lo := [some (.ref 0), some (.int x0), some (.int x1), some (.ref 55), none]) (by decide +kernel) rfl rfl (by intro v hv; simp at hv; rcases hv with rfl | rfl | rfl | rfl <;> rfl) (Nat.le_of_ble_eq_true rfl) rfl ?_
  refine pm_bl [(.aload_n 3, 1, 3, 0, 0), (.iconst 0, 1, 0, 0, 0), (.aload_n 0, 1, 0, 0, 0), (.iload_n 1, 1, 1, 0, 0), (.iload_n 2, 1, 2, 0, 0)] (pc1 := 5) (lo1 := [some (.ref 0), some (.int x0), some (.int x1), some (.ref 55), none]) (st1 := [.int x1, .int x0, .ref 0, .int 0, .ref 55]) (μ1 := μ) (vc := True) rfl (by decide +kernel) rfl trivial ?_
  refine pm_callVH mi_X9_stop (ix := 30) (b := 0) (ci := 9) (As := [.int x0, .int x1]) (rest := [.int 0, .ref 55]) hC cal_X9_stop lk11_30 (by decide +kernel) (by decide +kernel) rfl rfl rfl rfl (Nat.le_of_ble_eq_true rfl) ?_ ?_
  · intro E M hE
    rcases hX E M hE with ⟨rfl, h⟩ | ⟨rfl, h⟩
    · refine ⟨13, ⟨[], (0, 10, 13, 21), [(0, 10, 17, 33)], "java/lang/IndexOutOfBoundsException", rfl, fun z hz => absurd hz (by simp), ⟨by decide, by decide⟩, by decide, pm_tab (i := 519) (by decide +kernel) rfl, by decide +kernel, rfl⟩, pm_q_astore (a := 4) (by decide +kernel) (by decide) rfl (by simp) ?_⟩
      show pm_V _ _ _ _ 15 [some (.ref 0), some (.int x0), some (.int x1), some (.ref 55), none] [] _
      refine pm_bl [(.iconst 1, 1, 0, 0, 1)] (pc1 := 16) (lo1 := [some (.ref 0), some (.int x0), some (.int x1), some (.ref 55), none]) (st1 := [.int 1]) (μ1 := M) (vc := True) rfl (by decide +kernel) rfl trivial ?_
      exact pm_iret (ty := .int) rfl rfl (by decide) (by decide) (by decide +kernel) h
    · refine ⟨17, ⟨[(0, 10, 13, 21)], (0, 10, 17, 33), [], "java/util/NoSuchElementException", rfl, fun z hz => by
        simp only [List.mem_cons, List.not_mem_nil, or_false] at hz
        rcases hz with rfl
        · exact ⟨by decide, "java/lang/IndexOutOfBoundsException", pm_tab (i := 519) (by decide +kernel) rfl, by decide +kernel⟩, ⟨by decide, by decide⟩, by decide, pm_tab (i := 613) (by decide +kernel) rfl, by decide +kernel, rfl⟩, pm_q_astore (a := 4) (by decide +kernel) (by decide) rfl (by simp) ?_⟩
      show pm_V _ _ _ _ 19 [some (.ref 0), some (.int x0), some (.int x1), some (.ref 55), none] [] _
      refine pm_bl [(.iconst 2, 1, 0, 0, 2)] (pc1 := 20) (lo1 := [some (.ref 0), some (.int x0), some (.int x1), some (.ref 55), none]) (st1 := [.int 2]) (μ1 := M) (vc := True) rfl (by decide +kernel) rfl trivial ?_
      exact pm_iret (ty := .int) rfl rfl (by decide) (by decide) (by decide +kernel) h
  · intro v M hv
    obtain ⟨x, rfl, h⟩ := hP v M hv
    show pm_V _ _ _ _ 8 _ [.int x, .int 0, .ref 55] _
    refine pm_bl [(.i2l, 1, 0, 0, 0)] (pc1 := 9) (lo1 := [some (.ref 0), some (.int x0), some (.int x1), some (.ref 55), none]) (st1 := [.long x.toInt64, .int 0, .ref 55]) (μ1 := M) (vc := True) rfl (by decide +kernel) rfl trivial ?_
    refine pm_s_last (r := 55) (n := 1) rfl rfl (by unfold vp_in; decide) (by decide +kernel) ?_
    rw [show (0 : Int32).toNatClampNeg = 0 from by decide]
    refine pm_bl [(.goto 11, 3, 21, 0, 0), (.iconst 0, 1, 0, 0, 0)] (pc1 := 22) (lo1 := [some (.ref 0), some (.int x0), some (.int x1), some (.ref 55), none]) (st1 := [.int 0]) (μ1 := pm_setL M 0 x.toInt64) (vc := True) rfl (by decide +kernel) rfl trivial ?_
    exact pm_iret (ty := .int) rfl rfl (by decide) (by decide) (by decide +kernel) h
set_option maxHeartbeats 4000000 in
set_option maxRecDepth 100000 in
theorem c_L_stopIndex {x0 : Int32} (μ : pm_Mm) {P2 : Option Value → pm_Mm → Prop} {X2 : String → pm_Mm → Prop} (hC : pm_CT mi_X9_stopIndex [.ref 0, .int x0] μ P2 X2) (P : Option Value → pm_Mm → Prop) (hP : ∀ v M, P2 v M → ∃ x : Int32, v = some (.int x) ∧ P (some (.int 0)) (pm_setL M 0 x.toInt64)) (hX : ∀ E M, X2 E M → (E = "java/lang/IndexOutOfBoundsException" ∧ P (some (.int 1)) M) ∨ (E = "java/util/NoSuchElementException" ∧ P (some (.int 2)) M)) : pm_CT mi_L_stopIndex [.ref 0, .int x0, .ref 55] μ P pm_NX := by
  refine pm_CT_ofH (lo := [some (.ref 0), some (.int x0), some (.ref 55), none]) (by decide +kernel) rfl rfl (by intro v hv; simp at hv; rcases hv with rfl | rfl | rfl <;> rfl) (Nat.le_of_ble_eq_true rfl) rfl ?_
  refine pm_bl [(.aload_n 2, 1, 2, 0, 0), (.iconst 0, 1, 0, 0, 0), (.aload_n 0, 1, 0, 0, 0), (.iload_n 1, 1, 1, 0, 0)] (pc1 := 4) (lo1 := [some (.ref 0), some (.int x0), some (.ref 55), none]) (st1 := [.int x0, .ref 0, .int 0, .ref 55]) (μ1 := μ) (vc := True) rfl (by decide +kernel) rfl trivial ?_
  refine pm_callVH mi_X9_stopIndex (ix := 35) (b := 0) (ci := 9) (As := [.int x0]) (rest := [.int 0, .ref 55]) hC cal_X9_stopIndex lk11_35 (by decide +kernel) (by decide +kernel) rfl rfl rfl rfl (Nat.le_of_ble_eq_true rfl) ?_ ?_
  · intro E M hE
    rcases hX E M hE with ⟨rfl, h⟩ | ⟨rfl, h⟩
    · refine ⟨12, ⟨[], (0, 9, 12, 21), [(0, 9, 15, 33)], "java/lang/IndexOutOfBoundsException", rfl, fun z hz => absurd hz (by simp), ⟨by decide, by decide⟩, by decide, pm_tab (i := 519) (by decide +kernel) rfl, by decide +kernel, rfl⟩, pm_q_astore_n (j := 3) (a := 3) (by decide +kernel) rfl (by decide) rfl (by simp) ?_⟩
      show pm_V _ _ _ _ 13 [some (.ref 0), some (.int x0), some (.ref 55), none] [] _
      refine pm_bl [(.iconst 1, 1, 0, 0, 1)] (pc1 := 14) (lo1 := [some (.ref 0), some (.int x0), some (.ref 55), none]) (st1 := [.int 1]) (μ1 := M) (vc := True) rfl (by decide +kernel) rfl trivial ?_
      exact pm_iret (ty := .int) rfl rfl (by decide) (by decide) (by decide +kernel) h
    · refine ⟨15, ⟨[(0, 9, 12, 21)], (0, 9, 15, 33), [], "java/util/NoSuchElementException", rfl, fun z hz => by
        simp only [List.mem_cons, List.not_mem_nil, or_false] at hz
        rcases hz with rfl
        · exact ⟨by decide, "java/lang/IndexOutOfBoundsException", pm_tab (i := 519) (by decide +kernel) rfl, by decide +kernel⟩, ⟨by decide, by decide⟩, by decide, pm_tab (i := 613) (by decide +kernel) rfl, by decide +kernel, rfl⟩, pm_q_astore_n (j := 3) (a := 3) (by decide +kernel) rfl (by decide) rfl (by simp) ?_⟩
      show pm_V _ _ _ _ 16 [some (.ref 0), some (.int x0), some (.ref 55), none] [] _
      refine pm_bl [(.iconst 2, 1, 0, 0, 2)] (pc1 := 17) (lo1 := [some (.ref 0), some (.int x0), some (.ref 55), none]) (st1 := [.int 2]) (μ1 := M) (vc := True) rfl (by decide +kernel) rfl trivial ?_
      exact pm_iret (ty := .int) rfl rfl (by decide) (by decide) (by decide +kernel) h
  · intro v M hv
    obtain ⟨x, rfl, h⟩ := hP v M hv
    show pm_V _ _ _ _ 7 _ [.int x, .int 0, .ref 55] _
    refine pm_bl [(.i2l, 1, 0, 0, 0)] (pc1 := 8) (lo1 := [some (.ref 0), some (.int x0), some (.ref 55), none]) (st1 := [.long x.toInt64, .int 0, .ref 55]) (μ1 := M) (vc := True) rfl (by decide +kernel) rfl trivial ?_
    refine pm_s_last (r := 55) (n := 1) rfl rfl (by unfold vp_in; decide) (by decide +kernel) ?_
    rw [show (0 : Int32).toNatClampNeg = 0 from by decide]
    refine pm_bl [(.goto 9, 3, 18, 0, 0), (.iconst 0, 1, 0, 0, 0)] (pc1 := 19) (lo1 := [some (.ref 0), some (.int x0), some (.ref 55), none]) (st1 := [.int 0]) (μ1 := pm_setL M 0 x.toInt64) (vc := True) rfl (by decide +kernel) rfl trivial ?_
    exact pm_iret (ty := .int) rfl rfl (by decide) (by decide) (by decide +kernel) h
set_option maxHeartbeats 4000000 in
set_option maxRecDepth 100000 in
theorem c_L_redirectPerson {x0 x1 x2 x3 : Int32} (μ : pm_Mm) {P2 : Option Value → pm_Mm → Prop} {X2 : String → pm_Mm → Prop} (hC : pm_CT mi_X9_redirectPerson [.ref 0, .int x0, .int x1, .int x2, .int x3] μ P2 X2) (P : Option Value → pm_Mm → Prop) (hP : ∀ v M, P2 v M → ∃ x : Int32, v = some (.int x) ∧ P (some (.int 0)) (pm_setL M 0 x.toInt64)) (hX : ∀ E M, X2 E M → (E = "java/lang/IndexOutOfBoundsException" ∧ P (some (.int 1)) M) ∨ (E = "java/lang/IllegalArgumentException" ∧ P (some (.int 2)) M) ∨ (E = "java/lang/UnsupportedOperationException" ∧ P (some (.int 3)) M)) : pm_CT mi_L_redirectPerson [.ref 0, .int x0, .int x1, .int x2, .int x3, .ref 55] μ P pm_NX := by
  refine pm_CT_ofH (lo := [some (.ref 0), some (.int x0), some (.int x1), some (.int x2), some (.int x3), some (.ref 55), none]) (by decide +kernel) rfl rfl (by intro v hv; simp at hv; rcases hv with rfl | rfl | rfl | rfl | rfl | rfl <;> rfl) (Nat.le_of_ble_eq_true rfl) rfl ?_
  refine pm_bl [(.aload 5, 2, 5, 0, 0), (.iconst 0, 1, 0, 0, 0), (.aload_n 0, 1, 0, 0, 0), (.iload_n 1, 1, 1, 0, 0), (.iload_n 2, 1, 2, 0, 0), (.iload_n 3, 1, 3, 0, 0), (.iload 4, 2, 4, 0, 0)] (pc1 := 9) (lo1 := [some (.ref 0), some (.int x0), some (.int x1), some (.int x2), some (.int x3), some (.ref 55), none]) (st1 := [.int x3, .int x2, .int x1, .int x0, .ref 0, .int 0, .ref 55]) (μ1 := μ) (vc := True) rfl (by decide +kernel) rfl trivial ?_
  refine pm_callVH mi_X9_redirectPerson (ix := 38) (b := 0) (ci := 9) (As := [.int x0, .int x1, .int x2, .int x3]) (rest := [.int 0, .ref 55]) hC cal_X9_redirectPerson lk11_38 (by decide +kernel) (by decide +kernel) rfl rfl rfl rfl (Nat.le_of_ble_eq_true rfl) ?_ ?_
  · intro E M hE
    rcases hX E M hE with ⟨rfl, h⟩ | ⟨rfl, h⟩ | ⟨rfl, h⟩
    · refine ⟨17, ⟨[], (0, 14, 17, 21), [(0, 14, 21, 13), (0, 14, 25, 42)], "java/lang/IndexOutOfBoundsException", rfl, fun z hz => absurd hz (by simp), ⟨by decide, by decide⟩, by decide, pm_tab (i := 519) (by decide +kernel) rfl, by decide +kernel, rfl⟩, pm_q_astore (a := 6) (by decide +kernel) (by decide) rfl (by simp) ?_⟩
      show pm_V _ _ _ _ 19 [some (.ref 0), some (.int x0), some (.int x1), some (.int x2), some (.int x3), some (.ref 55), none] [] _
      refine pm_bl [(.iconst 1, 1, 0, 0, 1)] (pc1 := 20) (lo1 := [some (.ref 0), some (.int x0), some (.int x1), some (.int x2), some (.int x3), some (.ref 55), none]) (st1 := [.int 1]) (μ1 := M) (vc := True) rfl (by decide +kernel) rfl trivial ?_
      exact pm_iret (ty := .int) rfl rfl (by decide) (by decide) (by decide +kernel) h
    · refine ⟨21, ⟨[(0, 14, 17, 21)], (0, 14, 21, 13), [(0, 14, 25, 42)], "java/lang/IllegalArgumentException", rfl, fun z hz => by
        simp only [List.mem_cons, List.not_mem_nil, or_false] at hz
        rcases hz with rfl
        · exact ⟨by decide, "java/lang/IndexOutOfBoundsException", pm_tab (i := 519) (by decide +kernel) rfl, by decide +kernel⟩, ⟨by decide, by decide⟩, by decide, pm_tab (i := 395) (by decide +kernel) rfl, by decide +kernel, rfl⟩, pm_q_astore (a := 6) (by decide +kernel) (by decide) rfl (by simp) ?_⟩
      show pm_V _ _ _ _ 23 [some (.ref 0), some (.int x0), some (.int x1), some (.int x2), some (.int x3), some (.ref 55), none] [] _
      refine pm_bl [(.iconst 2, 1, 0, 0, 2)] (pc1 := 24) (lo1 := [some (.ref 0), some (.int x0), some (.int x1), some (.int x2), some (.int x3), some (.ref 55), none]) (st1 := [.int 2]) (μ1 := M) (vc := True) rfl (by decide +kernel) rfl trivial ?_
      exact pm_iret (ty := .int) rfl rfl (by decide) (by decide) (by decide +kernel) h
    · refine ⟨25, ⟨[(0, 14, 17, 21), (0, 14, 21, 13)], (0, 14, 25, 42), [], "java/lang/UnsupportedOperationException", rfl, fun z hz => by
        simp only [List.mem_cons, List.not_mem_nil, or_false] at hz
        rcases hz with rfl | rfl
        · exact ⟨by decide, "java/lang/IndexOutOfBoundsException", pm_tab (i := 519) (by decide +kernel) rfl, by decide +kernel⟩
        · exact ⟨by decide, "java/lang/IllegalArgumentException", pm_tab (i := 395) (by decide +kernel) rfl, by decide +kernel⟩, ⟨by decide, by decide⟩, by decide, pm_tab (i := 659) (by decide +kernel) rfl, by decide +kernel, rfl⟩, pm_q_astore (a := 6) (by decide +kernel) (by decide) rfl (by simp) ?_⟩
      show pm_V _ _ _ _ 27 [some (.ref 0), some (.int x0), some (.int x1), some (.int x2), some (.int x3), some (.ref 55), none] [] _
      refine pm_bl [(.iconst 3, 1, 0, 0, 3)] (pc1 := 28) (lo1 := [some (.ref 0), some (.int x0), some (.int x1), some (.int x2), some (.int x3), some (.ref 55), none]) (st1 := [.int 3]) (μ1 := M) (vc := True) rfl (by decide +kernel) rfl trivial ?_
      exact pm_iret (ty := .int) rfl rfl (by decide) (by decide) (by decide +kernel) h
  · intro v M hv
    obtain ⟨x, rfl, h⟩ := hP v M hv
    show pm_V _ _ _ _ 12 _ [.int x, .int 0, .ref 55] _
    refine pm_bl [(.i2l, 1, 0, 0, 0)] (pc1 := 13) (lo1 := [some (.ref 0), some (.int x0), some (.int x1), some (.int x2), some (.int x3), some (.ref 55), none]) (st1 := [.long x.toInt64, .int 0, .ref 55]) (μ1 := M) (vc := True) rfl (by decide +kernel) rfl trivial ?_
    refine pm_s_last (r := 55) (n := 1) rfl rfl (by unfold vp_in; decide) (by decide +kernel) ?_
    rw [show (0 : Int32).toNatClampNeg = 0 from by decide]
    refine pm_bl [(.goto 15, 3, 29, 0, 0), (.iconst 0, 1, 0, 0, 0)] (pc1 := 30) (lo1 := [some (.ref 0), some (.int x0), some (.int x1), some (.int x2), some (.int x3), some (.ref 55), none]) (st1 := [.int 0]) (μ1 := pm_setL M 0 x.toInt64) (vc := True) rfl (by decide +kernel) rfl trivial ?_
    exact pm_iret (ty := .int) rfl rfl (by decide) (by decide) (by decide +kernel) h
set_option maxHeartbeats 4000000 in
set_option maxRecDepth 100000 in
theorem c_L_redirectHouse {x0 x1 x2 x3 : Int32} (μ : pm_Mm) {P2 : Option Value → pm_Mm → Prop} {X2 : String → pm_Mm → Prop} (hC : pm_CT mi_X9_redirectHouse [.ref 0, .int x0, .int x1, .int x2, .int x3] μ P2 X2) (P : Option Value → pm_Mm → Prop) (hP : ∀ v M, P2 v M → ∃ x : Int32, v = some (.int x) ∧ P (some (.int 0)) (pm_setL M 0 x.toInt64)) (hX : ∀ E M, X2 E M → (E = "java/lang/IndexOutOfBoundsException" ∧ P (some (.int 1)) M) ∨ (E = "java/lang/IllegalArgumentException" ∧ P (some (.int 2)) M) ∨ (E = "java/lang/UnsupportedOperationException" ∧ P (some (.int 3)) M)) : pm_CT mi_L_redirectHouse [.ref 0, .int x0, .int x1, .int x2, .int x3, .ref 55] μ P pm_NX := by
  refine pm_CT_ofH (lo := [some (.ref 0), some (.int x0), some (.int x1), some (.int x2), some (.int x3), some (.ref 55), none]) (by decide +kernel) rfl rfl (by intro v hv; simp at hv; rcases hv with rfl | rfl | rfl | rfl | rfl | rfl <;> rfl) (Nat.le_of_ble_eq_true rfl) rfl ?_
  refine pm_bl [(.aload 5, 2, 5, 0, 0), (.iconst 0, 1, 0, 0, 0), (.aload_n 0, 1, 0, 0, 0), (.iload_n 1, 1, 1, 0, 0), (.iload_n 2, 1, 2, 0, 0), (.iload_n 3, 1, 3, 0, 0), (.iload 4, 2, 4, 0, 0)] (pc1 := 9) (lo1 := [some (.ref 0), some (.int x0), some (.int x1), some (.int x2), some (.int x3), some (.ref 55), none]) (st1 := [.int x3, .int x2, .int x1, .int x0, .ref 0, .int 0, .ref 55]) (μ1 := μ) (vc := True) rfl (by decide +kernel) rfl trivial ?_
  refine pm_callVH mi_X9_redirectHouse (ix := 44) (b := 0) (ci := 9) (As := [.int x0, .int x1, .int x2, .int x3]) (rest := [.int 0, .ref 55]) hC cal_X9_redirectHouse lk11_44 (by decide +kernel) (by decide +kernel) rfl rfl rfl rfl (Nat.le_of_ble_eq_true rfl) ?_ ?_
  · intro E M hE
    rcases hX E M hE with ⟨rfl, h⟩ | ⟨rfl, h⟩ | ⟨rfl, h⟩
    · refine ⟨17, ⟨[], (0, 14, 17, 21), [(0, 14, 21, 13), (0, 14, 25, 42)], "java/lang/IndexOutOfBoundsException", rfl, fun z hz => absurd hz (by simp), ⟨by decide, by decide⟩, by decide, pm_tab (i := 519) (by decide +kernel) rfl, by decide +kernel, rfl⟩, pm_q_astore (a := 6) (by decide +kernel) (by decide) rfl (by simp) ?_⟩
      show pm_V _ _ _ _ 19 [some (.ref 0), some (.int x0), some (.int x1), some (.int x2), some (.int x3), some (.ref 55), none] [] _
      refine pm_bl [(.iconst 1, 1, 0, 0, 1)] (pc1 := 20) (lo1 := [some (.ref 0), some (.int x0), some (.int x1), some (.int x2), some (.int x3), some (.ref 55), none]) (st1 := [.int 1]) (μ1 := M) (vc := True) rfl (by decide +kernel) rfl trivial ?_
      exact pm_iret (ty := .int) rfl rfl (by decide) (by decide) (by decide +kernel) h
    · refine ⟨21, ⟨[(0, 14, 17, 21)], (0, 14, 21, 13), [(0, 14, 25, 42)], "java/lang/IllegalArgumentException", rfl, fun z hz => by
        simp only [List.mem_cons, List.not_mem_nil, or_false] at hz
        rcases hz with rfl
        · exact ⟨by decide, "java/lang/IndexOutOfBoundsException", pm_tab (i := 519) (by decide +kernel) rfl, by decide +kernel⟩, ⟨by decide, by decide⟩, by decide, pm_tab (i := 395) (by decide +kernel) rfl, by decide +kernel, rfl⟩, pm_q_astore (a := 6) (by decide +kernel) (by decide) rfl (by simp) ?_⟩
      show pm_V _ _ _ _ 23 [some (.ref 0), some (.int x0), some (.int x1), some (.int x2), some (.int x3), some (.ref 55), none] [] _
      refine pm_bl [(.iconst 2, 1, 0, 0, 2)] (pc1 := 24) (lo1 := [some (.ref 0), some (.int x0), some (.int x1), some (.int x2), some (.int x3), some (.ref 55), none]) (st1 := [.int 2]) (μ1 := M) (vc := True) rfl (by decide +kernel) rfl trivial ?_
      exact pm_iret (ty := .int) rfl rfl (by decide) (by decide) (by decide +kernel) h
    · refine ⟨25, ⟨[(0, 14, 17, 21), (0, 14, 21, 13)], (0, 14, 25, 42), [], "java/lang/UnsupportedOperationException", rfl, fun z hz => by
        simp only [List.mem_cons, List.not_mem_nil, or_false] at hz
        rcases hz with rfl | rfl
        · exact ⟨by decide, "java/lang/IndexOutOfBoundsException", pm_tab (i := 519) (by decide +kernel) rfl, by decide +kernel⟩
        · exact ⟨by decide, "java/lang/IllegalArgumentException", pm_tab (i := 395) (by decide +kernel) rfl, by decide +kernel⟩, ⟨by decide, by decide⟩, by decide, pm_tab (i := 659) (by decide +kernel) rfl, by decide +kernel, rfl⟩, pm_q_astore (a := 6) (by decide +kernel) (by decide) rfl (by simp) ?_⟩
      show pm_V _ _ _ _ 27 [some (.ref 0), some (.int x0), some (.int x1), some (.int x2), some (.int x3), some (.ref 55), none] [] _
      refine pm_bl [(.iconst 3, 1, 0, 0, 3)] (pc1 := 28) (lo1 := [some (.ref 0), some (.int x0), some (.int x1), some (.int x2), some (.int x3), some (.ref 55), none]) (st1 := [.int 3]) (μ1 := M) (vc := True) rfl (by decide +kernel) rfl trivial ?_
      exact pm_iret (ty := .int) rfl rfl (by decide) (by decide) (by decide +kernel) h
  · intro v M hv
    obtain ⟨x, rfl, h⟩ := hP v M hv
    show pm_V _ _ _ _ 12 _ [.int x, .int 0, .ref 55] _
    refine pm_bl [(.i2l, 1, 0, 0, 0)] (pc1 := 13) (lo1 := [some (.ref 0), some (.int x0), some (.int x1), some (.int x2), some (.int x3), some (.ref 55), none]) (st1 := [.long x.toInt64, .int 0, .ref 55]) (μ1 := M) (vc := True) rfl (by decide +kernel) rfl trivial ?_
    refine pm_s_last (r := 55) (n := 1) rfl rfl (by unfold vp_in; decide) (by decide +kernel) ?_
    rw [show (0 : Int32).toNatClampNeg = 0 from by decide]
    refine pm_bl [(.goto 15, 3, 29, 0, 0), (.iconst 0, 1, 0, 0, 0)] (pc1 := 30) (lo1 := [some (.ref 0), some (.int x0), some (.int x1), some (.int x2), some (.int x3), some (.ref 55), none]) (st1 := [.int 0]) (μ1 := pm_setL M 0 x.toInt64) (vc := True) rfl (by decide +kernel) rfl trivial ?_
    exact pm_iret (ty := .int) rfl rfl (by decide) (by decide) (by decide +kernel) h
set_option maxHeartbeats 4000000 in
set_option maxRecDepth 100000 in
theorem c_L_dropRedirect {x0 : Int32} (μ : pm_Mm) {P2 : Option Value → pm_Mm → Prop} {X2 : String → pm_Mm → Prop} (hC : pm_CT mi_X9_dropRedirect [.ref 0, .int x0] μ P2 X2) (P : Option Value → pm_Mm → Prop) (hP : ∀ v M, P2 v M → ∃ x : Int32, v = some (.int x) ∧ P (some (.int 0)) (pm_setL M 0 x.toInt64)) (hX : ∀ E M, X2 E M → (E = "java/lang/IndexOutOfBoundsException" ∧ P (some (.int 1)) M) ∨ (E = "java/lang/UnsupportedOperationException" ∧ P (some (.int 2)) M)) : pm_CT mi_L_dropRedirect [.ref 0, .int x0, .ref 55] μ P pm_NX := by
  refine pm_CT_ofH (lo := [some (.ref 0), some (.int x0), some (.ref 55), none]) (by decide +kernel) rfl rfl (by intro v hv; simp at hv; rcases hv with rfl | rfl | rfl <;> rfl) (Nat.le_of_ble_eq_true rfl) rfl ?_
  refine pm_bl [(.aload_n 2, 1, 2, 0, 0), (.iconst 0, 1, 0, 0, 0), (.aload_n 0, 1, 0, 0, 0), (.iload_n 1, 1, 1, 0, 0)] (pc1 := 4) (lo1 := [some (.ref 0), some (.int x0), some (.ref 55), none]) (st1 := [.int x0, .ref 0, .int 0, .ref 55]) (μ1 := μ) (vc := True) rfl (by decide +kernel) rfl trivial ?_
  refine pm_callVH mi_X9_dropRedirect (ix := 47) (b := 0) (ci := 9) (As := [.int x0]) (rest := [.int 0, .ref 55]) hC cal_X9_dropRedirect lk11_47 (by decide +kernel) (by decide +kernel) rfl rfl rfl rfl (Nat.le_of_ble_eq_true rfl) ?_ ?_
  · intro E M hE
    rcases hX E M hE with ⟨rfl, h⟩ | ⟨rfl, h⟩
    · refine ⟨12, ⟨[], (0, 9, 12, 21), [(0, 9, 15, 42)], "java/lang/IndexOutOfBoundsException", rfl, fun z hz => absurd hz (by simp), ⟨by decide, by decide⟩, by decide, pm_tab (i := 519) (by decide +kernel) rfl, by decide +kernel, rfl⟩, pm_q_astore_n (j := 3) (a := 3) (by decide +kernel) rfl (by decide) rfl (by simp) ?_⟩
      show pm_V _ _ _ _ 13 [some (.ref 0), some (.int x0), some (.ref 55), none] [] _
      refine pm_bl [(.iconst 1, 1, 0, 0, 1)] (pc1 := 14) (lo1 := [some (.ref 0), some (.int x0), some (.ref 55), none]) (st1 := [.int 1]) (μ1 := M) (vc := True) rfl (by decide +kernel) rfl trivial ?_
      exact pm_iret (ty := .int) rfl rfl (by decide) (by decide) (by decide +kernel) h
    · refine ⟨15, ⟨[(0, 9, 12, 21)], (0, 9, 15, 42), [], "java/lang/UnsupportedOperationException", rfl, fun z hz => by
        simp only [List.mem_cons, List.not_mem_nil, or_false] at hz
        rcases hz with rfl
        · exact ⟨by decide, "java/lang/IndexOutOfBoundsException", pm_tab (i := 519) (by decide +kernel) rfl, by decide +kernel⟩, ⟨by decide, by decide⟩, by decide, pm_tab (i := 659) (by decide +kernel) rfl, by decide +kernel, rfl⟩, pm_q_astore_n (j := 3) (a := 3) (by decide +kernel) rfl (by decide) rfl (by simp) ?_⟩
      show pm_V _ _ _ _ 16 [some (.ref 0), some (.int x0), some (.ref 55), none] [] _
      refine pm_bl [(.iconst 2, 1, 0, 0, 2)] (pc1 := 17) (lo1 := [some (.ref 0), some (.int x0), some (.ref 55), none]) (st1 := [.int 2]) (μ1 := M) (vc := True) rfl (by decide +kernel) rfl trivial ?_
      exact pm_iret (ty := .int) rfl rfl (by decide) (by decide) (by decide +kernel) h
  · intro v M hv
    obtain ⟨x, rfl, h⟩ := hP v M hv
    show pm_V _ _ _ _ 7 _ [.int x, .int 0, .ref 55] _
    refine pm_bl [(.i2l, 1, 0, 0, 0)] (pc1 := 8) (lo1 := [some (.ref 0), some (.int x0), some (.ref 55), none]) (st1 := [.long x.toInt64, .int 0, .ref 55]) (μ1 := M) (vc := True) rfl (by decide +kernel) rfl trivial ?_
    refine pm_s_last (r := 55) (n := 1) rfl rfl (by unfold vp_in; decide) (by decide +kernel) ?_
    rw [show (0 : Int32).toNatClampNeg = 0 from by decide]
    refine pm_bl [(.goto 9, 3, 18, 0, 0), (.iconst 0, 1, 0, 0, 0)] (pc1 := 19) (lo1 := [some (.ref 0), some (.int x0), some (.ref 55), none]) (st1 := [.int 0]) (μ1 := pm_setL M 0 x.toInt64) (vc := True) rfl (by decide +kernel) rfl trivial ?_
    exact pm_iret (ty := .int) rfl rfl (by decide) (by decide) (by decide +kernel) h
set_option maxHeartbeats 4000000 in
set_option maxRecDepth 100000 in
theorem c_L_way {x0 x1 x2 : Int32} (μ : pm_Mm) {P2 : Option Value → pm_Mm → Prop} {X2 : String → pm_Mm → Prop} (hC : pm_CT mi_X9_way [.ref 0, .int x0, .int x1, .int x2] μ P2 X2) (P : Option Value → pm_Mm → Prop) (hP : ∀ v M, P2 v M → ∃ x : Int32, v = some (.int x) ∧ P (some (.int 0)) (pm_setL M 0 x.toInt64)) (hX : ∀ E M, X2 E M → (E = "java/lang/IndexOutOfBoundsException" ∧ P (some (.int 1)) M) ∨ (E = "java/lang/IllegalArgumentException" ∧ P (some (.int 2)) M) ∨ (E = "java/util/NoSuchElementException" ∧ P (some (.int 3)) M)) : pm_CT mi_L_way [.ref 0, .int x0, .int x1, .int x2, .ref 55] μ P pm_NX := by
  refine pm_CT_ofH (lo := [some (.ref 0), some (.int x0), some (.int x1), some (.int x2), some (.ref 55), none]) (by decide +kernel) rfl rfl (by intro v hv; simp at hv; rcases hv with rfl | rfl | rfl | rfl | rfl <;> rfl) (Nat.le_of_ble_eq_true rfl) rfl ?_
  refine pm_bl [(.aload 4, 2, 4, 0, 0), (.iconst 0, 1, 0, 0, 0), (.aload_n 0, 1, 0, 0, 0), (.iload_n 1, 1, 1, 0, 0), (.iload_n 2, 1, 2, 0, 0), (.iload_n 3, 1, 3, 0, 0)] (pc1 := 7) (lo1 := [some (.ref 0), some (.int x0), some (.int x1), some (.int x2), some (.ref 55), none]) (st1 := [.int x2, .int x1, .int x0, .ref 0, .int 0, .ref 55]) (μ1 := μ) (vc := True) rfl (by decide +kernel) rfl trivial ?_
  refine pm_callVH mi_X9_way (ix := 50) (b := 0) (ci := 9) (As := [.int x0, .int x1, .int x2]) (rest := [.int 0, .ref 55]) hC cal_X9_way lk11_50 (by decide +kernel) (by decide +kernel) rfl rfl rfl rfl (Nat.le_of_ble_eq_true rfl) ?_ ?_
  · intro E M hE
    rcases hX E M hE with ⟨rfl, h⟩ | ⟨rfl, h⟩ | ⟨rfl, h⟩
    · refine ⟨15, ⟨[], (0, 12, 15, 21), [(0, 12, 19, 13), (0, 12, 23, 33)], "java/lang/IndexOutOfBoundsException", rfl, fun z hz => absurd hz (by simp), ⟨by decide, by decide⟩, by decide, pm_tab (i := 519) (by decide +kernel) rfl, by decide +kernel, rfl⟩, pm_q_astore (a := 5) (by decide +kernel) (by decide) rfl (by simp) ?_⟩
      show pm_V _ _ _ _ 17 [some (.ref 0), some (.int x0), some (.int x1), some (.int x2), some (.ref 55), none] [] _
      refine pm_bl [(.iconst 1, 1, 0, 0, 1)] (pc1 := 18) (lo1 := [some (.ref 0), some (.int x0), some (.int x1), some (.int x2), some (.ref 55), none]) (st1 := [.int 1]) (μ1 := M) (vc := True) rfl (by decide +kernel) rfl trivial ?_
      exact pm_iret (ty := .int) rfl rfl (by decide) (by decide) (by decide +kernel) h
    · refine ⟨19, ⟨[(0, 12, 15, 21)], (0, 12, 19, 13), [(0, 12, 23, 33)], "java/lang/IllegalArgumentException", rfl, fun z hz => by
        simp only [List.mem_cons, List.not_mem_nil, or_false] at hz
        rcases hz with rfl
        · exact ⟨by decide, "java/lang/IndexOutOfBoundsException", pm_tab (i := 519) (by decide +kernel) rfl, by decide +kernel⟩, ⟨by decide, by decide⟩, by decide, pm_tab (i := 395) (by decide +kernel) rfl, by decide +kernel, rfl⟩, pm_q_astore (a := 5) (by decide +kernel) (by decide) rfl (by simp) ?_⟩
      show pm_V _ _ _ _ 21 [some (.ref 0), some (.int x0), some (.int x1), some (.int x2), some (.ref 55), none] [] _
      refine pm_bl [(.iconst 2, 1, 0, 0, 2)] (pc1 := 22) (lo1 := [some (.ref 0), some (.int x0), some (.int x1), some (.int x2), some (.ref 55), none]) (st1 := [.int 2]) (μ1 := M) (vc := True) rfl (by decide +kernel) rfl trivial ?_
      exact pm_iret (ty := .int) rfl rfl (by decide) (by decide) (by decide +kernel) h
    · refine ⟨23, ⟨[(0, 12, 15, 21), (0, 12, 19, 13)], (0, 12, 23, 33), [], "java/util/NoSuchElementException", rfl, fun z hz => by
        simp only [List.mem_cons, List.not_mem_nil, or_false] at hz
        rcases hz with rfl | rfl
        · exact ⟨by decide, "java/lang/IndexOutOfBoundsException", pm_tab (i := 519) (by decide +kernel) rfl, by decide +kernel⟩
        · exact ⟨by decide, "java/lang/IllegalArgumentException", pm_tab (i := 395) (by decide +kernel) rfl, by decide +kernel⟩, ⟨by decide, by decide⟩, by decide, pm_tab (i := 613) (by decide +kernel) rfl, by decide +kernel, rfl⟩, pm_q_astore (a := 5) (by decide +kernel) (by decide) rfl (by simp) ?_⟩
      show pm_V _ _ _ _ 25 [some (.ref 0), some (.int x0), some (.int x1), some (.int x2), some (.ref 55), none] [] _
      refine pm_bl [(.iconst 3, 1, 0, 0, 3)] (pc1 := 26) (lo1 := [some (.ref 0), some (.int x0), some (.int x1), some (.int x2), some (.ref 55), none]) (st1 := [.int 3]) (μ1 := M) (vc := True) rfl (by decide +kernel) rfl trivial ?_
      exact pm_iret (ty := .int) rfl rfl (by decide) (by decide) (by decide +kernel) h
  · intro v M hv
    obtain ⟨x, rfl, h⟩ := hP v M hv
    show pm_V _ _ _ _ 10 _ [.int x, .int 0, .ref 55] _
    refine pm_bl [(.i2l, 1, 0, 0, 0)] (pc1 := 11) (lo1 := [some (.ref 0), some (.int x0), some (.int x1), some (.int x2), some (.ref 55), none]) (st1 := [.long x.toInt64, .int 0, .ref 55]) (μ1 := M) (vc := True) rfl (by decide +kernel) rfl trivial ?_
    refine pm_s_last (r := 55) (n := 1) rfl rfl (by unfold vp_in; decide) (by decide +kernel) ?_
    rw [show (0 : Int32).toNatClampNeg = 0 from by decide]
    refine pm_bl [(.goto 15, 3, 27, 0, 0), (.iconst 0, 1, 0, 0, 0)] (pc1 := 28) (lo1 := [some (.ref 0), some (.int x0), some (.int x1), some (.int x2), some (.ref 55), none]) (st1 := [.int 0]) (μ1 := pm_setL M 0 x.toInt64) (vc := True) rfl (by decide +kernel) rfl trivial ?_
    exact pm_iret (ty := .int) rfl rfl (by decide) (by decide) (by decide +kernel) h
set_option maxHeartbeats 4000000 in
set_option maxRecDepth 100000 in
theorem c_L_hold {x0 x1 : Int32} (μ : pm_Mm) {P2 : Option Value → pm_Mm → Prop} {X2 : String → pm_Mm → Prop} (hC : pm_CT mi_X9_hold [.ref 0, .int x0, .int x1] μ P2 X2) (P : Option Value → pm_Mm → Prop) (hP : ∀ v M, P2 v M → ∃ x : Int32, v = some (.int x) ∧ P (some (.int 0)) (pm_setL M 0 x.toInt64)) (hX : ∀ E M, X2 E M → (E = "java/lang/IndexOutOfBoundsException" ∧ P (some (.int 1)) M) ∨ (E = "java/lang/IllegalArgumentException" ∧ P (some (.int 2)) M)) : pm_CT mi_L_hold [.ref 0, .int x0, .int x1, .ref 55] μ P pm_NX := by
  refine pm_CT_ofH (lo := [some (.ref 0), some (.int x0), some (.int x1), some (.ref 55), none]) (by decide +kernel) rfl rfl (by intro v hv; simp at hv; rcases hv with rfl | rfl | rfl | rfl <;> rfl) (Nat.le_of_ble_eq_true rfl) rfl ?_
  refine pm_bl [(.aload_n 3, 1, 3, 0, 0), (.iconst 0, 1, 0, 0, 0), (.aload_n 0, 1, 0, 0, 0), (.iload_n 1, 1, 1, 0, 0), (.iload_n 2, 1, 2, 0, 0)] (pc1 := 5) (lo1 := [some (.ref 0), some (.int x0), some (.int x1), some (.ref 55), none]) (st1 := [.int x1, .int x0, .ref 0, .int 0, .ref 55]) (μ1 := μ) (vc := True) rfl (by decide +kernel) rfl trivial ?_
  refine pm_callVH mi_X9_hold (ix := 54) (b := 0) (ci := 9) (As := [.int x0, .int x1]) (rest := [.int 0, .ref 55]) hC cal_X9_hold lk11_54 (by decide +kernel) (by decide +kernel) rfl rfl rfl rfl (Nat.le_of_ble_eq_true rfl) ?_ ?_
  · intro E M hE
    rcases hX E M hE with ⟨rfl, h⟩ | ⟨rfl, h⟩
    · refine ⟨13, ⟨[], (0, 10, 13, 21), [(0, 10, 17, 13)], "java/lang/IndexOutOfBoundsException", rfl, fun z hz => absurd hz (by simp), ⟨by decide, by decide⟩, by decide, pm_tab (i := 519) (by decide +kernel) rfl, by decide +kernel, rfl⟩, pm_q_astore (a := 4) (by decide +kernel) (by decide) rfl (by simp) ?_⟩
      show pm_V _ _ _ _ 15 [some (.ref 0), some (.int x0), some (.int x1), some (.ref 55), none] [] _
      refine pm_bl [(.iconst 1, 1, 0, 0, 1)] (pc1 := 16) (lo1 := [some (.ref 0), some (.int x0), some (.int x1), some (.ref 55), none]) (st1 := [.int 1]) (μ1 := M) (vc := True) rfl (by decide +kernel) rfl trivial ?_
      exact pm_iret (ty := .int) rfl rfl (by decide) (by decide) (by decide +kernel) h
    · refine ⟨17, ⟨[(0, 10, 13, 21)], (0, 10, 17, 13), [], "java/lang/IllegalArgumentException", rfl, fun z hz => by
        simp only [List.mem_cons, List.not_mem_nil, or_false] at hz
        rcases hz with rfl
        · exact ⟨by decide, "java/lang/IndexOutOfBoundsException", pm_tab (i := 519) (by decide +kernel) rfl, by decide +kernel⟩, ⟨by decide, by decide⟩, by decide, pm_tab (i := 395) (by decide +kernel) rfl, by decide +kernel, rfl⟩, pm_q_astore (a := 4) (by decide +kernel) (by decide) rfl (by simp) ?_⟩
      show pm_V _ _ _ _ 19 [some (.ref 0), some (.int x0), some (.int x1), some (.ref 55), none] [] _
      refine pm_bl [(.iconst 2, 1, 0, 0, 2)] (pc1 := 20) (lo1 := [some (.ref 0), some (.int x0), some (.int x1), some (.ref 55), none]) (st1 := [.int 2]) (μ1 := M) (vc := True) rfl (by decide +kernel) rfl trivial ?_
      exact pm_iret (ty := .int) rfl rfl (by decide) (by decide) (by decide +kernel) h
  · intro v M hv
    obtain ⟨x, rfl, h⟩ := hP v M hv
    show pm_V _ _ _ _ 8 _ [.int x, .int 0, .ref 55] _
    refine pm_bl [(.i2l, 1, 0, 0, 0)] (pc1 := 9) (lo1 := [some (.ref 0), some (.int x0), some (.int x1), some (.ref 55), none]) (st1 := [.long x.toInt64, .int 0, .ref 55]) (μ1 := M) (vc := True) rfl (by decide +kernel) rfl trivial ?_
    refine pm_s_last (r := 55) (n := 1) rfl rfl (by unfold vp_in; decide) (by decide +kernel) ?_
    rw [show (0 : Int32).toNatClampNeg = 0 from by decide]
    refine pm_bl [(.goto 11, 3, 21, 0, 0), (.iconst 0, 1, 0, 0, 0)] (pc1 := 22) (lo1 := [some (.ref 0), some (.int x0), some (.int x1), some (.ref 55), none]) (st1 := [.int 0]) (μ1 := pm_setL M 0 x.toInt64) (vc := True) rfl (by decide +kernel) rfl trivial ?_
    exact pm_iret (ty := .int) rfl rfl (by decide) (by decide) (by decide +kernel) h
set_option maxHeartbeats 4000000 in
set_option maxRecDepth 100000 in
theorem c_L_allow {x0 x1 x2 : Int32} (μ : pm_Mm) {P2 : Option Value → pm_Mm → Prop} {X2 : String → pm_Mm → Prop} (hC : pm_CT mi_X9_allow [.ref 0, .int x0, .int x1, .int x2] μ P2 X2) (P : Option Value → pm_Mm → Prop) (hP : ∀ v M, P2 v M → ∃ x : Int32, v = some (.int x) ∧ P (some (.int 0)) (pm_setL M 0 (if x = 0 then 0 else 1))) (hX : ∀ E M, X2 E M → (E = "java/lang/IndexOutOfBoundsException" ∧ P (some (.int 1)) M) ∨ (E = "java/lang/IllegalArgumentException" ∧ P (some (.int 2)) M)) : pm_CT mi_L_allow [.ref 0, .int x0, .int x1, .int x2, .ref 55] μ P pm_NX := by
  refine pm_CT_ofH (lo := [some (.ref 0), some (.int x0), some (.int x1), some (.int x2), some (.ref 55), none]) (by decide +kernel) rfl rfl (by intro v hv; simp at hv; rcases hv with rfl | rfl | rfl | rfl | rfl <;> rfl) (Nat.le_of_ble_eq_true rfl) rfl ?_
  refine pm_bl [(.aload 4, 2, 4, 0, 0), (.iconst 0, 1, 0, 0, 0), (.aload_n 0, 1, 0, 0, 0), (.iload_n 1, 1, 1, 0, 0), (.iload_n 2, 1, 2, 0, 0), (.iload_n 3, 1, 3, 0, 0)] (pc1 := 7) (lo1 := [some (.ref 0), some (.int x0), some (.int x1), some (.int x2), some (.ref 55), none]) (st1 := [.int x2, .int x1, .int x0, .ref 0, .int 0, .ref 55]) (μ1 := μ) (vc := True) rfl (by decide +kernel) rfl trivial ?_
  refine pm_callVH mi_X9_allow (ix := 57) (b := 0) (ci := 9) (As := [.int x0, .int x1, .int x2]) (rest := [.int 0, .ref 55]) hC cal_X9_allow lk11_57 (by decide +kernel) (by decide +kernel) rfl rfl rfl rfl (Nat.le_of_ble_eq_true rfl) ?_ ?_
  · intro E M hE
    rcases hX E M hE with ⟨rfl, h⟩ | ⟨rfl, h⟩
    · refine ⟨22, ⟨[], (0, 19, 22, 21), [(0, 19, 26, 13)], "java/lang/IndexOutOfBoundsException", rfl, fun z hz => absurd hz (by simp), ⟨by decide, by decide⟩, by decide, pm_tab (i := 519) (by decide +kernel) rfl, by decide +kernel, rfl⟩, pm_q_astore (a := 5) (by decide +kernel) (by decide) rfl (by simp) ?_⟩
      show pm_V _ _ _ _ 24 [some (.ref 0), some (.int x0), some (.int x1), some (.int x2), some (.ref 55), none] [] _
      refine pm_bl [(.iconst 1, 1, 0, 0, 1)] (pc1 := 25) (lo1 := [some (.ref 0), some (.int x0), some (.int x1), some (.int x2), some (.ref 55), none]) (st1 := [.int 1]) (μ1 := M) (vc := True) rfl (by decide +kernel) rfl trivial ?_
      exact pm_iret (ty := .int) rfl rfl (by decide) (by decide) (by decide +kernel) h
    · refine ⟨26, ⟨[(0, 19, 22, 21)], (0, 19, 26, 13), [], "java/lang/IllegalArgumentException", rfl, fun z hz => by
        simp only [List.mem_cons, List.not_mem_nil, or_false] at hz
        rcases hz with rfl
        · exact ⟨by decide, "java/lang/IndexOutOfBoundsException", pm_tab (i := 519) (by decide +kernel) rfl, by decide +kernel⟩, ⟨by decide, by decide⟩, by decide, pm_tab (i := 395) (by decide +kernel) rfl, by decide +kernel, rfl⟩, pm_q_astore (a := 5) (by decide +kernel) (by decide) rfl (by simp) ?_⟩
      show pm_V _ _ _ _ 28 [some (.ref 0), some (.int x0), some (.int x1), some (.int x2), some (.ref 55), none] [] _
      refine pm_bl [(.iconst 2, 1, 0, 0, 2)] (pc1 := 29) (lo1 := [some (.ref 0), some (.int x0), some (.int x1), some (.int x2), some (.ref 55), none]) (st1 := [.int 2]) (μ1 := M) (vc := True) rfl (by decide +kernel) rfl trivial ?_
      exact pm_iret (ty := .int) rfl rfl (by decide) (by decide) (by decide +kernel) h
  · intro v M hv
    obtain ⟨x, rfl, h⟩ := hP v M hv
    show pm_V _ _ _ _ 10 _ [.int x, .int 0, .ref 55] _
    refine pm_if_eq (off := 7) 17 (by decide +kernel) (by decide) (fun (h10 : x = 0) => ?_) (fun (h10 : ¬ (x = 0)) => ?_)
    · refine pm_s_lconst0 (by decide +kernel) ?_
      refine pm_s_last (r := 55) (n := 1) rfl rfl (by unfold vp_in; decide) (by decide +kernel) ?_
      rw [show (0 : Int32).toNatClampNeg = 0 from by decide]
      refine pm_bl [(.goto 11, 3, 30, 0, 0), (.iconst 0, 1, 0, 0, 0)] (pc1 := 31) (lo1 := [some (.ref 0), some (.int x0), some (.int x1), some (.int x2), some (.ref 55), none]) (st1 := [.int 0]) (μ1 := pm_setL M 0 0) (vc := True) rfl (by decide +kernel) rfl trivial ?_
      exact pm_iret (ty := .int) rfl rfl (by decide) (by decide) (by decide +kernel) (by first | (rw [if_pos (by assumption)] at h; exact h) | (rw [if_neg (by assumption)] at h; exact h))
    · refine pm_s_lconst1 (by decide +kernel) ?_
      refine pm_bl [(.goto 4, 3, 18, 0, 0)] (pc1 := 18) (lo1 := [some (.ref 0), some (.int x0), some (.int x1), some (.int x2), some (.ref 55), none]) (st1 := [.long 1, .int 0, .ref 55]) (μ1 := M) (vc := True) rfl (by decide +kernel) rfl trivial ?_
      refine pm_s_last (r := 55) (n := 1) rfl rfl (by unfold vp_in; decide) (by decide +kernel) ?_
      rw [show (0 : Int32).toNatClampNeg = 0 from by decide]
      refine pm_bl [(.goto 11, 3, 30, 0, 0), (.iconst 0, 1, 0, 0, 0)] (pc1 := 31) (lo1 := [some (.ref 0), some (.int x0), some (.int x1), some (.int x2), some (.ref 55), none]) (st1 := [.int 0]) (μ1 := pm_setL M 0 1) (vc := True) rfl (by decide +kernel) rfl trivial ?_
      exact pm_iret (ty := .int) rfl rfl (by decide) (by decide) (by decide +kernel) (by first | (rw [if_pos (by assumption)] at h; exact h) | (rw [if_neg (by assumption)] at h; exact h))
set_option maxHeartbeats 4000000 in
set_option maxRecDepth 100000 in
theorem c_L_setLimit {x0 x1 : Int32} (μ : pm_Mm) {P2 : Option Value → pm_Mm → Prop} {X2 : String → pm_Mm → Prop} (hC : pm_CT mi_X9_setLimit [.ref 0, .int x0, .int x1] μ P2 X2) (P : Option Value → pm_Mm → Prop) (hP : ∀ v M, P2 v M → ∃ x : Int32, v = some (.int x) ∧ P (some (.int 0)) (pm_setL M 0 x.toInt64)) (hX : ∀ E M, X2 E M → (E = "java/lang/IndexOutOfBoundsException" ∧ P (some (.int 1)) M) ∨ (E = "java/lang/IllegalArgumentException" ∧ P (some (.int 2)) M)) : pm_CT mi_L_setLimit [.ref 0, .int x0, .int x1, .ref 55] μ P pm_NX := by
  refine pm_CT_ofH (lo := [some (.ref 0), some (.int x0), some (.int x1), some (.ref 55), none]) (by decide +kernel) rfl rfl (by intro v hv; simp at hv; rcases hv with rfl | rfl | rfl | rfl <;> rfl) (Nat.le_of_ble_eq_true rfl) rfl ?_
  refine pm_bl [(.aload_n 3, 1, 3, 0, 0), (.iconst 0, 1, 0, 0, 0), (.aload_n 0, 1, 0, 0, 0), (.iload_n 1, 1, 1, 0, 0), (.iload_n 2, 1, 2, 0, 0)] (pc1 := 5) (lo1 := [some (.ref 0), some (.int x0), some (.int x1), some (.ref 55), none]) (st1 := [.int x1, .int x0, .ref 0, .int 0, .ref 55]) (μ1 := μ) (vc := True) rfl (by decide +kernel) rfl trivial ?_
  refine pm_callVH mi_X9_setLimit (ix := 61) (b := 0) (ci := 9) (As := [.int x0, .int x1]) (rest := [.int 0, .ref 55]) hC cal_X9_setLimit lk11_61 (by decide +kernel) (by decide +kernel) rfl rfl rfl rfl (Nat.le_of_ble_eq_true rfl) ?_ ?_
  · intro E M hE
    rcases hX E M hE with ⟨rfl, h⟩ | ⟨rfl, h⟩
    · refine ⟨13, ⟨[], (0, 10, 13, 21), [(0, 10, 17, 13)], "java/lang/IndexOutOfBoundsException", rfl, fun z hz => absurd hz (by simp), ⟨by decide, by decide⟩, by decide, pm_tab (i := 519) (by decide +kernel) rfl, by decide +kernel, rfl⟩, pm_q_astore (a := 4) (by decide +kernel) (by decide) rfl (by simp) ?_⟩
      show pm_V _ _ _ _ 15 [some (.ref 0), some (.int x0), some (.int x1), some (.ref 55), none] [] _
      refine pm_bl [(.iconst 1, 1, 0, 0, 1)] (pc1 := 16) (lo1 := [some (.ref 0), some (.int x0), some (.int x1), some (.ref 55), none]) (st1 := [.int 1]) (μ1 := M) (vc := True) rfl (by decide +kernel) rfl trivial ?_
      exact pm_iret (ty := .int) rfl rfl (by decide) (by decide) (by decide +kernel) h
    · refine ⟨17, ⟨[(0, 10, 13, 21)], (0, 10, 17, 13), [], "java/lang/IllegalArgumentException", rfl, fun z hz => by
        simp only [List.mem_cons, List.not_mem_nil, or_false] at hz
        rcases hz with rfl
        · exact ⟨by decide, "java/lang/IndexOutOfBoundsException", pm_tab (i := 519) (by decide +kernel) rfl, by decide +kernel⟩, ⟨by decide, by decide⟩, by decide, pm_tab (i := 395) (by decide +kernel) rfl, by decide +kernel, rfl⟩, pm_q_astore (a := 4) (by decide +kernel) (by decide) rfl (by simp) ?_⟩
      show pm_V _ _ _ _ 19 [some (.ref 0), some (.int x0), some (.int x1), some (.ref 55), none] [] _
      refine pm_bl [(.iconst 2, 1, 0, 0, 2)] (pc1 := 20) (lo1 := [some (.ref 0), some (.int x0), some (.int x1), some (.ref 55), none]) (st1 := [.int 2]) (μ1 := M) (vc := True) rfl (by decide +kernel) rfl trivial ?_
      exact pm_iret (ty := .int) rfl rfl (by decide) (by decide) (by decide +kernel) h
  · intro v M hv
    obtain ⟨x, rfl, h⟩ := hP v M hv
    show pm_V _ _ _ _ 8 _ [.int x, .int 0, .ref 55] _
    refine pm_bl [(.i2l, 1, 0, 0, 0)] (pc1 := 9) (lo1 := [some (.ref 0), some (.int x0), some (.int x1), some (.ref 55), none]) (st1 := [.long x.toInt64, .int 0, .ref 55]) (μ1 := M) (vc := True) rfl (by decide +kernel) rfl trivial ?_
    refine pm_s_last (r := 55) (n := 1) rfl rfl (by unfold vp_in; decide) (by decide +kernel) ?_
    rw [show (0 : Int32).toNatClampNeg = 0 from by decide]
    refine pm_bl [(.goto 11, 3, 21, 0, 0), (.iconst 0, 1, 0, 0, 0)] (pc1 := 22) (lo1 := [some (.ref 0), some (.int x0), some (.int x1), some (.ref 55), none]) (st1 := [.int 0]) (μ1 := pm_setL M 0 x.toInt64) (vc := True) rfl (by decide +kernel) rfl trivial ?_
    exact pm_iret (ty := .int) rfl rfl (by decide) (by decide) (by decide +kernel) h
set_option maxHeartbeats 4000000 in
set_option maxRecDepth 100000 in
theorem c_L_leave {x0 x1 x2 : Int32} (μ : pm_Mm) {P2 : Option Value → pm_Mm → Prop} {X2 : String → pm_Mm → Prop} (hC : pm_CT mi_X9_leave [.ref 0, .int x0, .int x1, .int x2] μ P2 X2) (P : Option Value → pm_Mm → Prop) (hP : ∀ v M, P2 v M → ∃ x : Int32, v = some (.int x) ∧ P (some (.int 0)) (pm_setL M 0 x.toInt64)) (hX : ∀ E M, X2 E M → (E = "java/lang/IndexOutOfBoundsException" ∧ P (some (.int 1)) M) ∨ (E = "java/lang/IllegalArgumentException" ∧ P (some (.int 2)) M)) : pm_CT mi_L_leave [.ref 0, .int x0, .int x1, .int x2, .ref 55] μ P pm_NX := by
  refine pm_CT_ofH (lo := [some (.ref 0), some (.int x0), some (.int x1), some (.int x2), some (.ref 55), none]) (by decide +kernel) rfl rfl (by intro v hv; simp at hv; rcases hv with rfl | rfl | rfl | rfl | rfl <;> rfl) (Nat.le_of_ble_eq_true rfl) rfl ?_
  refine pm_bl [(.aload 4, 2, 4, 0, 0), (.iconst 0, 1, 0, 0, 0), (.aload_n 0, 1, 0, 0, 0), (.iload_n 1, 1, 1, 0, 0), (.iload_n 2, 1, 2, 0, 0), (.iload_n 3, 1, 3, 0, 0)] (pc1 := 7) (lo1 := [some (.ref 0), some (.int x0), some (.int x1), some (.int x2), some (.ref 55), none]) (st1 := [.int x2, .int x1, .int x0, .ref 0, .int 0, .ref 55]) (μ1 := μ) (vc := True) rfl (by decide +kernel) rfl trivial ?_
  refine pm_callVH mi_X9_leave (ix := 64) (b := 0) (ci := 9) (As := [.int x0, .int x1, .int x2]) (rest := [.int 0, .ref 55]) hC cal_X9_leave lk11_64 (by decide +kernel) (by decide +kernel) rfl rfl rfl rfl (Nat.le_of_ble_eq_true rfl) ?_ ?_
  · intro E M hE
    rcases hX E M hE with ⟨rfl, h⟩ | ⟨rfl, h⟩
    · refine ⟨15, ⟨[], (0, 12, 15, 21), [(0, 12, 19, 13)], "java/lang/IndexOutOfBoundsException", rfl, fun z hz => absurd hz (by simp), ⟨by decide, by decide⟩, by decide, pm_tab (i := 519) (by decide +kernel) rfl, by decide +kernel, rfl⟩, pm_q_astore (a := 5) (by decide +kernel) (by decide) rfl (by simp) ?_⟩
      show pm_V _ _ _ _ 17 [some (.ref 0), some (.int x0), some (.int x1), some (.int x2), some (.ref 55), none] [] _
      refine pm_bl [(.iconst 1, 1, 0, 0, 1)] (pc1 := 18) (lo1 := [some (.ref 0), some (.int x0), some (.int x1), some (.int x2), some (.ref 55), none]) (st1 := [.int 1]) (μ1 := M) (vc := True) rfl (by decide +kernel) rfl trivial ?_
      exact pm_iret (ty := .int) rfl rfl (by decide) (by decide) (by decide +kernel) h
    · refine ⟨19, ⟨[(0, 12, 15, 21)], (0, 12, 19, 13), [], "java/lang/IllegalArgumentException", rfl, fun z hz => by
        simp only [List.mem_cons, List.not_mem_nil, or_false] at hz
        rcases hz with rfl
        · exact ⟨by decide, "java/lang/IndexOutOfBoundsException", pm_tab (i := 519) (by decide +kernel) rfl, by decide +kernel⟩, ⟨by decide, by decide⟩, by decide, pm_tab (i := 395) (by decide +kernel) rfl, by decide +kernel, rfl⟩, pm_q_astore (a := 5) (by decide +kernel) (by decide) rfl (by simp) ?_⟩
      show pm_V _ _ _ _ 21 [some (.ref 0), some (.int x0), some (.int x1), some (.int x2), some (.ref 55), none] [] _
      refine pm_bl [(.iconst 2, 1, 0, 0, 2)] (pc1 := 22) (lo1 := [some (.ref 0), some (.int x0), some (.int x1), some (.int x2), some (.ref 55), none]) (st1 := [.int 2]) (μ1 := M) (vc := True) rfl (by decide +kernel) rfl trivial ?_
      exact pm_iret (ty := .int) rfl rfl (by decide) (by decide) (by decide +kernel) h
  · intro v M hv
    obtain ⟨x, rfl, h⟩ := hP v M hv
    show pm_V _ _ _ _ 10 _ [.int x, .int 0, .ref 55] _
    refine pm_bl [(.i2l, 1, 0, 0, 0)] (pc1 := 11) (lo1 := [some (.ref 0), some (.int x0), some (.int x1), some (.int x2), some (.ref 55), none]) (st1 := [.long x.toInt64, .int 0, .ref 55]) (μ1 := M) (vc := True) rfl (by decide +kernel) rfl trivial ?_
    refine pm_s_last (r := 55) (n := 1) rfl rfl (by unfold vp_in; decide) (by decide +kernel) ?_
    rw [show (0 : Int32).toNatClampNeg = 0 from by decide]
    refine pm_bl [(.goto 11, 3, 23, 0, 0), (.iconst 0, 1, 0, 0, 0)] (pc1 := 24) (lo1 := [some (.ref 0), some (.int x0), some (.int x1), some (.int x2), some (.ref 55), none]) (st1 := [.int 0]) (μ1 := pm_setL M 0 x.toInt64) (vc := True) rfl (by decide +kernel) rfl trivial ?_
    exact pm_iret (ty := .int) rfl rfl (by decide) (by decide) (by decide +kernel) h
set_option maxHeartbeats 4000000 in
set_option maxRecDepth 100000 in
theorem c_L_signer {x0 x1 : Int32} (μ : pm_Mm) {P2 : Option Value → pm_Mm → Prop} {X2 : String → pm_Mm → Prop} (hC : pm_CT mi_X9_signer [.ref 0, .int x0, .int x1] μ P2 X2) (P : Option Value → pm_Mm → Prop) (hP : ∀ v M, P2 v M → ∃ x : Int32, v = some (.int x) ∧ P (some (.int 0)) (pm_setL M 0 x.toInt64)) (hX : ∀ E M, X2 E M → (E = "java/lang/IndexOutOfBoundsException" ∧ P (some (.int 1)) M) ∨ (E = "java/lang/IllegalArgumentException" ∧ P (some (.int 2)) M) ∨ (E = "java/util/NoSuchElementException" ∧ P (some (.int 3)) M)) : pm_CT mi_L_signer [.ref 0, .int x0, .int x1, .ref 55] μ P pm_NX := by
  refine pm_CT_ofH (lo := [some (.ref 0), some (.int x0), some (.int x1), some (.ref 55), none]) (by decide +kernel) rfl rfl (by intro v hv; simp at hv; rcases hv with rfl | rfl | rfl | rfl <;> rfl) (Nat.le_of_ble_eq_true rfl) rfl ?_
  refine pm_bl [(.aload_n 3, 1, 3, 0, 0), (.iconst 0, 1, 0, 0, 0), (.aload_n 0, 1, 0, 0, 0), (.iload_n 1, 1, 1, 0, 0), (.iload_n 2, 1, 2, 0, 0)] (pc1 := 5) (lo1 := [some (.ref 0), some (.int x0), some (.int x1), some (.ref 55), none]) (st1 := [.int x1, .int x0, .ref 0, .int 0, .ref 55]) (μ1 := μ) (vc := True) rfl (by decide +kernel) rfl trivial ?_
  refine pm_callVH mi_X9_signer (ix := 67) (b := 0) (ci := 9) (As := [.int x0, .int x1]) (rest := [.int 0, .ref 55]) hC cal_X9_signer lk11_67 (by decide +kernel) (by decide +kernel) rfl rfl rfl rfl (Nat.le_of_ble_eq_true rfl) ?_ ?_
  · intro E M hE
    rcases hX E M hE with ⟨rfl, h⟩ | ⟨rfl, h⟩ | ⟨rfl, h⟩
    · refine ⟨13, ⟨[], (0, 10, 13, 21), [(0, 10, 17, 13), (0, 10, 21, 33)], "java/lang/IndexOutOfBoundsException", rfl, fun z hz => absurd hz (by simp), ⟨by decide, by decide⟩, by decide, pm_tab (i := 519) (by decide +kernel) rfl, by decide +kernel, rfl⟩, pm_q_astore (a := 4) (by decide +kernel) (by decide) rfl (by simp) ?_⟩
      show pm_V _ _ _ _ 15 [some (.ref 0), some (.int x0), some (.int x1), some (.ref 55), none] [] _
      refine pm_bl [(.iconst 1, 1, 0, 0, 1)] (pc1 := 16) (lo1 := [some (.ref 0), some (.int x0), some (.int x1), some (.ref 55), none]) (st1 := [.int 1]) (μ1 := M) (vc := True) rfl (by decide +kernel) rfl trivial ?_
      exact pm_iret (ty := .int) rfl rfl (by decide) (by decide) (by decide +kernel) h
    · refine ⟨17, ⟨[(0, 10, 13, 21)], (0, 10, 17, 13), [(0, 10, 21, 33)], "java/lang/IllegalArgumentException", rfl, fun z hz => by
        simp only [List.mem_cons, List.not_mem_nil, or_false] at hz
        rcases hz with rfl
        · exact ⟨by decide, "java/lang/IndexOutOfBoundsException", pm_tab (i := 519) (by decide +kernel) rfl, by decide +kernel⟩, ⟨by decide, by decide⟩, by decide, pm_tab (i := 395) (by decide +kernel) rfl, by decide +kernel, rfl⟩, pm_q_astore (a := 4) (by decide +kernel) (by decide) rfl (by simp) ?_⟩
      show pm_V _ _ _ _ 19 [some (.ref 0), some (.int x0), some (.int x1), some (.ref 55), none] [] _
      refine pm_bl [(.iconst 2, 1, 0, 0, 2)] (pc1 := 20) (lo1 := [some (.ref 0), some (.int x0), some (.int x1), some (.ref 55), none]) (st1 := [.int 2]) (μ1 := M) (vc := True) rfl (by decide +kernel) rfl trivial ?_
      exact pm_iret (ty := .int) rfl rfl (by decide) (by decide) (by decide +kernel) h
    · refine ⟨21, ⟨[(0, 10, 13, 21), (0, 10, 17, 13)], (0, 10, 21, 33), [], "java/util/NoSuchElementException", rfl, fun z hz => by
        simp only [List.mem_cons, List.not_mem_nil, or_false] at hz
        rcases hz with rfl | rfl
        · exact ⟨by decide, "java/lang/IndexOutOfBoundsException", pm_tab (i := 519) (by decide +kernel) rfl, by decide +kernel⟩
        · exact ⟨by decide, "java/lang/IllegalArgumentException", pm_tab (i := 395) (by decide +kernel) rfl, by decide +kernel⟩, ⟨by decide, by decide⟩, by decide, pm_tab (i := 613) (by decide +kernel) rfl, by decide +kernel, rfl⟩, pm_q_astore (a := 4) (by decide +kernel) (by decide) rfl (by simp) ?_⟩
      show pm_V _ _ _ _ 23 [some (.ref 0), some (.int x0), some (.int x1), some (.ref 55), none] [] _
      refine pm_bl [(.iconst 3, 1, 0, 0, 3)] (pc1 := 24) (lo1 := [some (.ref 0), some (.int x0), some (.int x1), some (.ref 55), none]) (st1 := [.int 3]) (μ1 := M) (vc := True) rfl (by decide +kernel) rfl trivial ?_
      exact pm_iret (ty := .int) rfl rfl (by decide) (by decide) (by decide +kernel) h
  · intro v M hv
    obtain ⟨x, rfl, h⟩ := hP v M hv
    show pm_V _ _ _ _ 8 _ [.int x, .int 0, .ref 55] _
    refine pm_bl [(.i2l, 1, 0, 0, 0)] (pc1 := 9) (lo1 := [some (.ref 0), some (.int x0), some (.int x1), some (.ref 55), none]) (st1 := [.long x.toInt64, .int 0, .ref 55]) (μ1 := M) (vc := True) rfl (by decide +kernel) rfl trivial ?_
    refine pm_s_last (r := 55) (n := 1) rfl rfl (by unfold vp_in; decide) (by decide +kernel) ?_
    rw [show (0 : Int32).toNatClampNeg = 0 from by decide]
    refine pm_bl [(.goto 15, 3, 25, 0, 0), (.iconst 0, 1, 0, 0, 0)] (pc1 := 26) (lo1 := [some (.ref 0), some (.int x0), some (.int x1), some (.ref 55), none]) (st1 := [.int 0]) (μ1 := pm_setL M 0 x.toInt64) (vc := True) rfl (by decide +kernel) rfl trivial ?_
    exact pm_iret (ty := .int) rfl rfl (by decide) (by decide) (by decide +kernel) h
set_option maxHeartbeats 4000000 in
set_option maxRecDepth 100000 in
theorem c_L_residents {x0 x1 x2 : Int32} (μ : pm_Mm) {P2 : Option Value → pm_Mm → Prop} {X2 : String → pm_Mm → Prop} (hC : pm_CT mi_X9_residents [.ref 0, .int x0, .int x1, .int x2] μ P2 X2) (P : Option Value → pm_Mm → Prop) (hP : ∀ v M, P2 v M → ∃ x : Int32, v = some (.int x) ∧ P (some (.int 0)) (pm_setL M 0 x.toInt64)) (hX : ∀ E M, X2 E M → (E = "java/lang/IndexOutOfBoundsException" ∧ P (some (.int 1)) M) ∨ (E = "java/lang/IllegalArgumentException" ∧ P (some (.int 2)) M)) : pm_CT mi_L_residents [.ref 0, .int x0, .int x1, .int x2, .ref 55] μ P pm_NX := by
  refine pm_CT_ofH (lo := [some (.ref 0), some (.int x0), some (.int x1), some (.int x2), some (.ref 55), none]) (by decide +kernel) rfl rfl (by intro v hv; simp at hv; rcases hv with rfl | rfl | rfl | rfl | rfl <;> rfl) (Nat.le_of_ble_eq_true rfl) rfl ?_
  refine pm_bl [(.aload 4, 2, 4, 0, 0), (.iconst 0, 1, 0, 0, 0), (.aload_n 0, 1, 0, 0, 0), (.iload_n 1, 1, 1, 0, 0), (.iload_n 2, 1, 2, 0, 0), (.iload_n 3, 1, 3, 0, 0)] (pc1 := 7) (lo1 := [some (.ref 0), some (.int x0), some (.int x1), some (.int x2), some (.ref 55), none]) (st1 := [.int x2, .int x1, .int x0, .ref 0, .int 0, .ref 55]) (μ1 := μ) (vc := True) rfl (by decide +kernel) rfl trivial ?_
  refine pm_callVH mi_X9_residents (ix := 70) (b := 0) (ci := 9) (As := [.int x0, .int x1, .int x2]) (rest := [.int 0, .ref 55]) hC cal_X9_residents lk11_70 (by decide +kernel) (by decide +kernel) rfl rfl rfl rfl (Nat.le_of_ble_eq_true rfl) ?_ ?_
  · intro E M hE
    rcases hX E M hE with ⟨rfl, h⟩ | ⟨rfl, h⟩
    · refine ⟨15, ⟨[], (0, 12, 15, 21), [(0, 12, 19, 13)], "java/lang/IndexOutOfBoundsException", rfl, fun z hz => absurd hz (by simp), ⟨by decide, by decide⟩, by decide, pm_tab (i := 519) (by decide +kernel) rfl, by decide +kernel, rfl⟩, pm_q_astore (a := 5) (by decide +kernel) (by decide) rfl (by simp) ?_⟩
      show pm_V _ _ _ _ 17 [some (.ref 0), some (.int x0), some (.int x1), some (.int x2), some (.ref 55), none] [] _
      refine pm_bl [(.iconst 1, 1, 0, 0, 1)] (pc1 := 18) (lo1 := [some (.ref 0), some (.int x0), some (.int x1), some (.int x2), some (.ref 55), none]) (st1 := [.int 1]) (μ1 := M) (vc := True) rfl (by decide +kernel) rfl trivial ?_
      exact pm_iret (ty := .int) rfl rfl (by decide) (by decide) (by decide +kernel) h
    · refine ⟨19, ⟨[(0, 12, 15, 21)], (0, 12, 19, 13), [], "java/lang/IllegalArgumentException", rfl, fun z hz => by
        simp only [List.mem_cons, List.not_mem_nil, or_false] at hz
        rcases hz with rfl
        · exact ⟨by decide, "java/lang/IndexOutOfBoundsException", pm_tab (i := 519) (by decide +kernel) rfl, by decide +kernel⟩, ⟨by decide, by decide⟩, by decide, pm_tab (i := 395) (by decide +kernel) rfl, by decide +kernel, rfl⟩, pm_q_astore (a := 5) (by decide +kernel) (by decide) rfl (by simp) ?_⟩
      show pm_V _ _ _ _ 21 [some (.ref 0), some (.int x0), some (.int x1), some (.int x2), some (.ref 55), none] [] _
      refine pm_bl [(.iconst 2, 1, 0, 0, 2)] (pc1 := 22) (lo1 := [some (.ref 0), some (.int x0), some (.int x1), some (.int x2), some (.ref 55), none]) (st1 := [.int 2]) (μ1 := M) (vc := True) rfl (by decide +kernel) rfl trivial ?_
      exact pm_iret (ty := .int) rfl rfl (by decide) (by decide) (by decide +kernel) h
  · intro v M hv
    obtain ⟨x, rfl, h⟩ := hP v M hv
    show pm_V _ _ _ _ 10 _ [.int x, .int 0, .ref 55] _
    refine pm_bl [(.i2l, 1, 0, 0, 0)] (pc1 := 11) (lo1 := [some (.ref 0), some (.int x0), some (.int x1), some (.int x2), some (.ref 55), none]) (st1 := [.long x.toInt64, .int 0, .ref 55]) (μ1 := M) (vc := True) rfl (by decide +kernel) rfl trivial ?_
    refine pm_s_last (r := 55) (n := 1) rfl rfl (by unfold vp_in; decide) (by decide +kernel) ?_
    rw [show (0 : Int32).toNatClampNeg = 0 from by decide]
    refine pm_bl [(.goto 11, 3, 23, 0, 0), (.iconst 0, 1, 0, 0, 0)] (pc1 := 24) (lo1 := [some (.ref 0), some (.int x0), some (.int x1), some (.int x2), some (.ref 55), none]) (st1 := [.int 0]) (μ1 := pm_setL M 0 x.toInt64) (vc := True) rfl (by decide +kernel) rfl trivial ?_
    exact pm_iret (ty := .int) rfl rfl (by decide) (by decide) (by decide +kernel) h
set_option maxHeartbeats 4000000 in
set_option maxRecDepth 100000 in
theorem c_L_addLetter {x0 x1 x2 : Int32} (μ : pm_Mm) {P2 : Option Value → pm_Mm → Prop} {X2 : String → pm_Mm → Prop} (hC : pm_CT mi_X9_addLetter [.ref 0, .int x0, .int x1, .int x2] μ P2 X2) (P : Option Value → pm_Mm → Prop) (hP : ∀ v M, P2 v M → ∃ x : Int32, v = some (.int x) ∧ P (some (.int 0)) (pm_setL M 0 x.toInt64)) (hX : ∀ E M, X2 E M → (E = "java/lang/IndexOutOfBoundsException" ∧ P (some (.int 1)) M) ∨ (E = "java/lang/IllegalArgumentException" ∧ P (some (.int 2)) M) ∨ (E = "java/lang/UnsupportedOperationException" ∧ P (some (.int 3)) M)) : pm_CT mi_L_addLetter [.ref 0, .int x0, .int x1, .int x2, .ref 55] μ P pm_NX := by
  refine pm_CT_ofH (lo := [some (.ref 0), some (.int x0), some (.int x1), some (.int x2), some (.ref 55), none]) (by decide +kernel) rfl rfl (by intro v hv; simp at hv; rcases hv with rfl | rfl | rfl | rfl | rfl <;> rfl) (Nat.le_of_ble_eq_true rfl) rfl ?_
  refine pm_bl [(.aload 4, 2, 4, 0, 0), (.iconst 0, 1, 0, 0, 0), (.aload_n 0, 1, 0, 0, 0), (.iload_n 1, 1, 1, 0, 0), (.iload_n 2, 1, 2, 0, 0), (.iload_n 3, 1, 3, 0, 0)] (pc1 := 7) (lo1 := [some (.ref 0), some (.int x0), some (.int x1), some (.int x2), some (.ref 55), none]) (st1 := [.int x2, .int x1, .int x0, .ref 0, .int 0, .ref 55]) (μ1 := μ) (vc := True) rfl (by decide +kernel) rfl trivial ?_
  refine pm_callVH mi_X9_addLetter (ix := 73) (b := 0) (ci := 9) (As := [.int x0, .int x1, .int x2]) (rest := [.int 0, .ref 55]) hC cal_X9_addLetter lk11_73 (by decide +kernel) (by decide +kernel) rfl rfl rfl rfl (Nat.le_of_ble_eq_true rfl) ?_ ?_
  · intro E M hE
    rcases hX E M hE with ⟨rfl, h⟩ | ⟨rfl, h⟩ | ⟨rfl, h⟩
    · refine ⟨15, ⟨[], (0, 12, 15, 21), [(0, 12, 19, 13), (0, 12, 23, 42)], "java/lang/IndexOutOfBoundsException", rfl, fun z hz => absurd hz (by simp), ⟨by decide, by decide⟩, by decide, pm_tab (i := 519) (by decide +kernel) rfl, by decide +kernel, rfl⟩, pm_q_astore (a := 5) (by decide +kernel) (by decide) rfl (by simp) ?_⟩
      show pm_V _ _ _ _ 17 [some (.ref 0), some (.int x0), some (.int x1), some (.int x2), some (.ref 55), none] [] _
      refine pm_bl [(.iconst 1, 1, 0, 0, 1)] (pc1 := 18) (lo1 := [some (.ref 0), some (.int x0), some (.int x1), some (.int x2), some (.ref 55), none]) (st1 := [.int 1]) (μ1 := M) (vc := True) rfl (by decide +kernel) rfl trivial ?_
      exact pm_iret (ty := .int) rfl rfl (by decide) (by decide) (by decide +kernel) h
    · refine ⟨19, ⟨[(0, 12, 15, 21)], (0, 12, 19, 13), [(0, 12, 23, 42)], "java/lang/IllegalArgumentException", rfl, fun z hz => by
        simp only [List.mem_cons, List.not_mem_nil, or_false] at hz
        rcases hz with rfl
        · exact ⟨by decide, "java/lang/IndexOutOfBoundsException", pm_tab (i := 519) (by decide +kernel) rfl, by decide +kernel⟩, ⟨by decide, by decide⟩, by decide, pm_tab (i := 395) (by decide +kernel) rfl, by decide +kernel, rfl⟩, pm_q_astore (a := 5) (by decide +kernel) (by decide) rfl (by simp) ?_⟩
      show pm_V _ _ _ _ 21 [some (.ref 0), some (.int x0), some (.int x1), some (.int x2), some (.ref 55), none] [] _
      refine pm_bl [(.iconst 2, 1, 0, 0, 2)] (pc1 := 22) (lo1 := [some (.ref 0), some (.int x0), some (.int x1), some (.int x2), some (.ref 55), none]) (st1 := [.int 2]) (μ1 := M) (vc := True) rfl (by decide +kernel) rfl trivial ?_
      exact pm_iret (ty := .int) rfl rfl (by decide) (by decide) (by decide +kernel) h
    · refine ⟨23, ⟨[(0, 12, 15, 21), (0, 12, 19, 13)], (0, 12, 23, 42), [], "java/lang/UnsupportedOperationException", rfl, fun z hz => by
        simp only [List.mem_cons, List.not_mem_nil, or_false] at hz
        rcases hz with rfl | rfl
        · exact ⟨by decide, "java/lang/IndexOutOfBoundsException", pm_tab (i := 519) (by decide +kernel) rfl, by decide +kernel⟩
        · exact ⟨by decide, "java/lang/IllegalArgumentException", pm_tab (i := 395) (by decide +kernel) rfl, by decide +kernel⟩, ⟨by decide, by decide⟩, by decide, pm_tab (i := 659) (by decide +kernel) rfl, by decide +kernel, rfl⟩, pm_q_astore (a := 5) (by decide +kernel) (by decide) rfl (by simp) ?_⟩
      show pm_V _ _ _ _ 25 [some (.ref 0), some (.int x0), some (.int x1), some (.int x2), some (.ref 55), none] [] _
      refine pm_bl [(.iconst 3, 1, 0, 0, 3)] (pc1 := 26) (lo1 := [some (.ref 0), some (.int x0), some (.int x1), some (.int x2), some (.ref 55), none]) (st1 := [.int 3]) (μ1 := M) (vc := True) rfl (by decide +kernel) rfl trivial ?_
      exact pm_iret (ty := .int) rfl rfl (by decide) (by decide) (by decide +kernel) h
  · intro v M hv
    obtain ⟨x, rfl, h⟩ := hP v M hv
    show pm_V _ _ _ _ 10 _ [.int x, .int 0, .ref 55] _
    refine pm_bl [(.i2l, 1, 0, 0, 0)] (pc1 := 11) (lo1 := [some (.ref 0), some (.int x0), some (.int x1), some (.int x2), some (.ref 55), none]) (st1 := [.long x.toInt64, .int 0, .ref 55]) (μ1 := M) (vc := True) rfl (by decide +kernel) rfl trivial ?_
    refine pm_s_last (r := 55) (n := 1) rfl rfl (by unfold vp_in; decide) (by decide +kernel) ?_
    rw [show (0 : Int32).toNatClampNeg = 0 from by decide]
    refine pm_bl [(.goto 15, 3, 27, 0, 0), (.iconst 0, 1, 0, 0, 0)] (pc1 := 28) (lo1 := [some (.ref 0), some (.int x0), some (.int x1), some (.int x2), some (.ref 55), none]) (st1 := [.int 0]) (μ1 := pm_setL M 0 x.toInt64) (vc := True) rfl (by decide +kernel) rfl trivial ?_
    exact pm_iret (ty := .int) rfl rfl (by decide) (by decide) (by decide +kernel) h
set_option maxHeartbeats 4000000 in
set_option maxRecDepth 100000 in
theorem c_L_append {x0 : Int32} (μ : pm_Mm) {P2 : Option Value → pm_Mm → Prop} {X2 : String → pm_Mm → Prop} (hC : pm_CT mi_X9_append [.ref 0, .int x0] μ P2 X2) (P : Option Value → pm_Mm → Prop) (hP : ∀ v M, P2 v M → v = none ∧ P (some (.int 0)) M) (hX : ∀ E M, X2 E M → (E = "java/lang/IllegalStateException" ∧ P (some (.int 1)) M)) : pm_CT mi_L_append [.ref 0, .int x0] μ P pm_NX := by
  refine pm_CT_ofH (lo := [some (.ref 0), some (.int x0), none]) (by decide +kernel) rfl rfl (by intro v hv; simp at hv; rcases hv with rfl | rfl <;> rfl) (Nat.le_of_ble_eq_true rfl) rfl ?_
  refine pm_bl [(.aload_n 0, 1, 0, 0, 0), (.iload_n 1, 1, 1, 0, 0)] (pc1 := 2) (lo1 := [some (.ref 0), some (.int x0), none]) (st1 := [.int x0, .ref 0]) (μ1 := μ) (vc := True) rfl (by decide +kernel) rfl trivial ?_
  refine pm_callVH mi_X9_append (ix := 77) (b := 0) (ci := 9) (As := [.int x0]) (rest := []) hC cal_X9_append lk11_77 (by decide +kernel) (by decide +kernel) rfl rfl rfl rfl (Nat.le_of_ble_eq_true rfl) ?_ ?_
  · intro E M hE
    obtain ⟨rfl, h⟩ := hX E M hE
    refine ⟨8, ⟨[], (0, 5, 8, 15), [], "java/lang/IllegalStateException", rfl, fun z hz => absurd hz (by simp), ⟨by decide, by decide⟩, by decide, pm_tab (i := 396) (by decide +kernel) rfl, by decide +kernel, rfl⟩, pm_q_astore_n (j := 2) (a := 2) (by decide +kernel) rfl (by decide) rfl (by simp) ?_⟩
    show pm_V _ _ _ _ 9 [some (.ref 0), some (.int x0), none] [] _
    refine pm_bl [(.iconst 1, 1, 0, 0, 1)] (pc1 := 10) (lo1 := [some (.ref 0), some (.int x0), none]) (st1 := [.int 1]) (μ1 := M) (vc := True) rfl (by decide +kernel) rfl trivial ?_
    exact pm_iret (ty := .int) rfl rfl (by decide) (by decide) (by decide +kernel) h
  · intro v M hv
    obtain ⟨rfl, h⟩ := hP v M hv
    show pm_V _ _ _ _ 5 _ [] _
    refine pm_bl [(.goto 6, 3, 11, 0, 0), (.iconst 0, 1, 0, 0, 0)] (pc1 := 12) (lo1 := [some (.ref 0), some (.int x0), none]) (st1 := [.int 0]) (μ1 := M) (vc := True) rfl (by decide +kernel) rfl trivial ?_
    exact pm_iret (ty := .int) rfl rfl (by decide) (by decide) (by decide +kernel) h
set_option maxHeartbeats 4000000 in
set_option maxRecDepth 100000 in
theorem c_L_arrive (μ : pm_Mm) {P2 : Option Value → pm_Mm → Prop} {X2 : String → pm_Mm → Prop} (hC : pm_CT mi_X9_arrive [.ref 0] μ P2 X2) (P : Option Value → pm_Mm → Prop) (hP : ∀ v M, P2 v M → ∃ x : Int32, v = some (.int x) ∧ P (some (.int 0)) (pm_setL M 0 x.toInt64)) (hX : ∀ E M, X2 E M → (E = "java/lang/IllegalArgumentException" ∧ P (some (.int 1)) M) ∨ (E = "java/lang/UnsupportedOperationException" ∧ P (some (.int 2)) M)) : pm_CT mi_L_arrive [.ref 0, .ref 55] μ P pm_NX := by
  refine pm_CT_ofH (lo := [some (.ref 0), some (.ref 55), none]) (by decide +kernel) rfl rfl (by intro v hv; simp at hv; rcases hv with rfl | rfl <;> rfl) (Nat.le_of_ble_eq_true rfl) rfl ?_
  refine pm_bl [(.aload_n 1, 1, 1, 0, 0), (.iconst 0, 1, 0, 0, 0), (.aload_n 0, 1, 0, 0, 0)] (pc1 := 3) (lo1 := [some (.ref 0), some (.ref 55), none]) (st1 := [.ref 0, .int 0, .ref 55]) (μ1 := μ) (vc := True) rfl (by decide +kernel) rfl trivial ?_
  refine pm_callVH mi_X9_arrive (ix := 81) (b := 0) (ci := 9) (As := []) (rest := [.int 0, .ref 55]) hC cal_X9_arrive lk11_81 (by decide +kernel) (by decide +kernel) rfl rfl rfl rfl (Nat.le_of_ble_eq_true rfl) ?_ ?_
  · intro E M hE
    rcases hX E M hE with ⟨rfl, h⟩ | ⟨rfl, h⟩
    · refine ⟨11, ⟨[], (0, 8, 11, 13), [(0, 8, 14, 42)], "java/lang/IllegalArgumentException", rfl, fun z hz => absurd hz (by simp), ⟨by decide, by decide⟩, by decide, pm_tab (i := 395) (by decide +kernel) rfl, by decide +kernel, rfl⟩, pm_q_astore_n (j := 2) (a := 2) (by decide +kernel) rfl (by decide) rfl (by simp) ?_⟩
      show pm_V _ _ _ _ 12 [some (.ref 0), some (.ref 55), none] [] _
      refine pm_bl [(.iconst 1, 1, 0, 0, 1)] (pc1 := 13) (lo1 := [some (.ref 0), some (.ref 55), none]) (st1 := [.int 1]) (μ1 := M) (vc := True) rfl (by decide +kernel) rfl trivial ?_
      exact pm_iret (ty := .int) rfl rfl (by decide) (by decide) (by decide +kernel) h
    · refine ⟨14, ⟨[(0, 8, 11, 13)], (0, 8, 14, 42), [], "java/lang/UnsupportedOperationException", rfl, fun z hz => by
        simp only [List.mem_cons, List.not_mem_nil, or_false] at hz
        rcases hz with rfl
        · exact ⟨by decide, "java/lang/IllegalArgumentException", pm_tab (i := 395) (by decide +kernel) rfl, by decide +kernel⟩, ⟨by decide, by decide⟩, by decide, pm_tab (i := 659) (by decide +kernel) rfl, by decide +kernel, rfl⟩, pm_q_astore_n (j := 2) (a := 2) (by decide +kernel) rfl (by decide) rfl (by simp) ?_⟩
      show pm_V _ _ _ _ 15 [some (.ref 0), some (.ref 55), none] [] _
      refine pm_bl [(.iconst 2, 1, 0, 0, 2)] (pc1 := 16) (lo1 := [some (.ref 0), some (.ref 55), none]) (st1 := [.int 2]) (μ1 := M) (vc := True) rfl (by decide +kernel) rfl trivial ?_
      exact pm_iret (ty := .int) rfl rfl (by decide) (by decide) (by decide +kernel) h
  · intro v M hv
    obtain ⟨x, rfl, h⟩ := hP v M hv
    show pm_V _ _ _ _ 6 _ [.int x, .int 0, .ref 55] _
    refine pm_bl [(.i2l, 1, 0, 0, 0)] (pc1 := 7) (lo1 := [some (.ref 0), some (.ref 55), none]) (st1 := [.long x.toInt64, .int 0, .ref 55]) (μ1 := M) (vc := True) rfl (by decide +kernel) rfl trivial ?_
    refine pm_s_last (r := 55) (n := 1) rfl rfl (by unfold vp_in; decide) (by decide +kernel) ?_
    rw [show (0 : Int32).toNatClampNeg = 0 from by decide]
    refine pm_bl [(.goto 9, 3, 17, 0, 0), (.iconst 0, 1, 0, 0, 0)] (pc1 := 18) (lo1 := [some (.ref 0), some (.ref 55), none]) (st1 := [.int 0]) (μ1 := pm_setL M 0 x.toInt64) (vc := True) rfl (by decide +kernel) rfl trivial ?_
    exact pm_iret (ty := .int) rfl rfl (by decide) (by decide) (by decide +kernel) h
set_option maxHeartbeats 4000000 in
set_option maxRecDepth 100000 in
theorem c_L_refusal (μ : pm_Mm) {P2 : Option Value → pm_Mm → Prop} {X2 : String → pm_Mm → Prop} (hC : pm_CT mi_X9_refusal [.ref 0] μ P2 X2) (P : Option Value → pm_Mm → Prop) (hP : ∀ v M, P2 v M → ∃ x : Int32, v = some (.int x) ∧ P (some (.int 0)) (pm_setL M 0 x.toInt64)) (hX : ∀ E M, X2 E M → (E = "java/util/NoSuchElementException" ∧ P (some (.int 1)) M)) : pm_CT mi_L_refusal [.ref 0, .ref 55] μ P pm_NX := by
  refine pm_CT_ofH (lo := [some (.ref 0), some (.ref 55), none]) (by decide +kernel) rfl rfl (by intro v hv; simp at hv; rcases hv with rfl | rfl <;> rfl) (Nat.le_of_ble_eq_true rfl) rfl ?_
  refine pm_bl [(.aload_n 1, 1, 1, 0, 0), (.iconst 0, 1, 0, 0, 0), (.aload_n 0, 1, 0, 0, 0)] (pc1 := 3) (lo1 := [some (.ref 0), some (.ref 55), none]) (st1 := [.ref 0, .int 0, .ref 55]) (μ1 := μ) (vc := True) rfl (by decide +kernel) rfl trivial ?_
  refine pm_callVH mi_X9_refusal (ix := 85) (b := 0) (ci := 9) (As := []) (rest := [.int 0, .ref 55]) hC cal_X9_refusal lk11_85 (by decide +kernel) (by decide +kernel) rfl rfl rfl rfl (Nat.le_of_ble_eq_true rfl) ?_ ?_
  · intro E M hE
    obtain ⟨rfl, h⟩ := hX E M hE
    refine ⟨11, ⟨[], (0, 8, 11, 33), [], "java/util/NoSuchElementException", rfl, fun z hz => absurd hz (by simp), ⟨by decide, by decide⟩, by decide, pm_tab (i := 613) (by decide +kernel) rfl, by decide +kernel, rfl⟩, pm_q_astore_n (j := 2) (a := 2) (by decide +kernel) rfl (by decide) rfl (by simp) ?_⟩
    show pm_V _ _ _ _ 12 [some (.ref 0), some (.ref 55), none] [] _
    refine pm_bl [(.iconst 1, 1, 0, 0, 1)] (pc1 := 13) (lo1 := [some (.ref 0), some (.ref 55), none]) (st1 := [.int 1]) (μ1 := M) (vc := True) rfl (by decide +kernel) rfl trivial ?_
    exact pm_iret (ty := .int) rfl rfl (by decide) (by decide) (by decide +kernel) h
  · intro v M hv
    obtain ⟨x, rfl, h⟩ := hP v M hv
    show pm_V _ _ _ _ 6 _ [.int x, .int 0, .ref 55] _
    refine pm_bl [(.i2l, 1, 0, 0, 0)] (pc1 := 7) (lo1 := [some (.ref 0), some (.ref 55), none]) (st1 := [.long x.toInt64, .int 0, .ref 55]) (μ1 := M) (vc := True) rfl (by decide +kernel) rfl trivial ?_
    refine pm_s_last (r := 55) (n := 1) rfl rfl (by unfold vp_in; decide) (by decide +kernel) ?_
    rw [show (0 : Int32).toNatClampNeg = 0 from by decide]
    refine pm_bl [(.goto 6, 3, 14, 0, 0), (.iconst 0, 1, 0, 0, 0)] (pc1 := 15) (lo1 := [some (.ref 0), some (.ref 55), none]) (st1 := [.int 0]) (μ1 := pm_setL M 0 x.toInt64) (vc := True) rfl (by decide +kernel) rfl trivial ?_
    exact pm_iret (ty := .int) rfl rfl (by decide) (by decide) (by decide +kernel) h
set_option maxHeartbeats 4000000 in
set_option maxRecDepth 100000 in
theorem c_L_letter {x0 x1 : Int32} (μ : pm_Mm) {P2 : Option Value → pm_Mm → Prop} {X2 : String → pm_Mm → Prop} (hC : pm_CT mi_X9_letter [.ref 0, .int x0, .int x1] μ P2 X2) (P : Option Value → pm_Mm → Prop) (hP : ∀ v M, P2 v M → ∃ x : Int32, v = some (.int x) ∧ P (some (.int 0)) (pm_setL M 0 x.toInt64)) (hX : ∀ E M, X2 E M → (E = "java/lang/IndexOutOfBoundsException" ∧ P (some (.int 1)) M) ∨ (E = "java/lang/IllegalArgumentException" ∧ P (some (.int 2)) M)) : pm_CT mi_L_letter [.ref 0, .int x0, .int x1, .ref 55] μ P pm_NX := by
  refine pm_CT_ofH (lo := [some (.ref 0), some (.int x0), some (.int x1), some (.ref 55), none]) (by decide +kernel) rfl rfl (by intro v hv; simp at hv; rcases hv with rfl | rfl | rfl | rfl <;> rfl) (Nat.le_of_ble_eq_true rfl) rfl ?_
  refine pm_bl [(.aload_n 3, 1, 3, 0, 0), (.iconst 0, 1, 0, 0, 0), (.aload_n 0, 1, 0, 0, 0), (.iload_n 1, 1, 1, 0, 0), (.iload_n 2, 1, 2, 0, 0)] (pc1 := 5) (lo1 := [some (.ref 0), some (.int x0), some (.int x1), some (.ref 55), none]) (st1 := [.int x1, .int x0, .ref 0, .int 0, .ref 55]) (μ1 := μ) (vc := True) rfl (by decide +kernel) rfl trivial ?_
  refine pm_callVH mi_X9_letter (ix := 88) (b := 0) (ci := 9) (As := [.int x0, .int x1]) (rest := [.int 0, .ref 55]) hC cal_X9_letter lk11_88 (by decide +kernel) (by decide +kernel) rfl rfl rfl rfl (Nat.le_of_ble_eq_true rfl) ?_ ?_
  · intro E M hE
    rcases hX E M hE with ⟨rfl, h⟩ | ⟨rfl, h⟩
    · refine ⟨13, ⟨[], (0, 10, 13, 21), [(0, 10, 17, 13)], "java/lang/IndexOutOfBoundsException", rfl, fun z hz => absurd hz (by simp), ⟨by decide, by decide⟩, by decide, pm_tab (i := 519) (by decide +kernel) rfl, by decide +kernel, rfl⟩, pm_q_astore (a := 4) (by decide +kernel) (by decide) rfl (by simp) ?_⟩
      show pm_V _ _ _ _ 15 [some (.ref 0), some (.int x0), some (.int x1), some (.ref 55), none] [] _
      refine pm_bl [(.iconst 1, 1, 0, 0, 1)] (pc1 := 16) (lo1 := [some (.ref 0), some (.int x0), some (.int x1), some (.ref 55), none]) (st1 := [.int 1]) (μ1 := M) (vc := True) rfl (by decide +kernel) rfl trivial ?_
      exact pm_iret (ty := .int) rfl rfl (by decide) (by decide) (by decide +kernel) h
    · refine ⟨17, ⟨[(0, 10, 13, 21)], (0, 10, 17, 13), [], "java/lang/IllegalArgumentException", rfl, fun z hz => by
        simp only [List.mem_cons, List.not_mem_nil, or_false] at hz
        rcases hz with rfl
        · exact ⟨by decide, "java/lang/IndexOutOfBoundsException", pm_tab (i := 519) (by decide +kernel) rfl, by decide +kernel⟩, ⟨by decide, by decide⟩, by decide, pm_tab (i := 395) (by decide +kernel) rfl, by decide +kernel, rfl⟩, pm_q_astore (a := 4) (by decide +kernel) (by decide) rfl (by simp) ?_⟩
      show pm_V _ _ _ _ 19 [some (.ref 0), some (.int x0), some (.int x1), some (.ref 55), none] [] _
      refine pm_bl [(.iconst 2, 1, 0, 0, 2)] (pc1 := 20) (lo1 := [some (.ref 0), some (.int x0), some (.int x1), some (.ref 55), none]) (st1 := [.int 2]) (μ1 := M) (vc := True) rfl (by decide +kernel) rfl trivial ?_
      exact pm_iret (ty := .int) rfl rfl (by decide) (by decide) (by decide +kernel) h
  · intro v M hv
    obtain ⟨x, rfl, h⟩ := hP v M hv
    show pm_V _ _ _ _ 8 _ [.int x, .int 0, .ref 55] _
    refine pm_bl [(.i2l, 1, 0, 0, 0)] (pc1 := 9) (lo1 := [some (.ref 0), some (.int x0), some (.int x1), some (.ref 55), none]) (st1 := [.long x.toInt64, .int 0, .ref 55]) (μ1 := M) (vc := True) rfl (by decide +kernel) rfl trivial ?_
    refine pm_s_last (r := 55) (n := 1) rfl rfl (by unfold vp_in; decide) (by decide +kernel) ?_
    rw [show (0 : Int32).toNatClampNeg = 0 from by decide]
    refine pm_bl [(.goto 11, 3, 21, 0, 0), (.iconst 0, 1, 0, 0, 0)] (pc1 := 22) (lo1 := [some (.ref 0), some (.int x0), some (.int x1), some (.ref 55), none]) (st1 := [.int 0]) (μ1 := pm_setL M 0 x.toInt64) (vc := True) rfl (by decide +kernel) rfl trivial ?_
    exact pm_iret (ty := .int) rfl rfl (by decide) (by decide) (by decide +kernel) h
set_option maxHeartbeats 4000000 in
set_option maxRecDepth 100000 in
theorem c_L_delivered {x0 : Int32} (μ : pm_Mm) {P2 : Option Value → pm_Mm → Prop} {X2 : String → pm_Mm → Prop} (hC : pm_CT mi_X9_delivered [.ref 0, .int x0] μ P2 X2) (P : Option Value → pm_Mm → Prop) (hP : ∀ v M, P2 v M → ∃ x : Int32, v = some (.int x) ∧ P (some (.int 0)) (pm_setL M 0 x.toInt64)) (hX : ∀ E M, X2 E M → (E = "java/util/NoSuchElementException" ∧ P (some (.int 1)) M)) : pm_CT mi_L_delivered [.ref 0, .int x0, .ref 55] μ P pm_NX := by
  refine pm_CT_ofH (lo := [some (.ref 0), some (.int x0), some (.ref 55), none]) (by decide +kernel) rfl rfl (by intro v hv; simp at hv; rcases hv with rfl | rfl | rfl <;> rfl) (Nat.le_of_ble_eq_true rfl) rfl ?_
  refine pm_bl [(.aload_n 2, 1, 2, 0, 0), (.iconst 0, 1, 0, 0, 0), (.aload_n 0, 1, 0, 0, 0), (.iload_n 1, 1, 1, 0, 0)] (pc1 := 4) (lo1 := [some (.ref 0), some (.int x0), some (.ref 55), none]) (st1 := [.int x0, .ref 0, .int 0, .ref 55]) (μ1 := μ) (vc := True) rfl (by decide +kernel) rfl trivial ?_
  refine pm_callVH mi_X9_delivered (ix := 98) (b := 0) (ci := 9) (As := [.int x0]) (rest := [.int 0, .ref 55]) hC cal_X9_delivered lk11_98 (by decide +kernel) (by decide +kernel) rfl rfl rfl rfl (Nat.le_of_ble_eq_true rfl) ?_ ?_
  · intro E M hE
    obtain ⟨rfl, h⟩ := hX E M hE
    refine ⟨12, ⟨[], (0, 9, 12, 33), [], "java/util/NoSuchElementException", rfl, fun z hz => absurd hz (by simp), ⟨by decide, by decide⟩, by decide, pm_tab (i := 613) (by decide +kernel) rfl, by decide +kernel, rfl⟩, pm_q_astore_n (j := 3) (a := 3) (by decide +kernel) rfl (by decide) rfl (by simp) ?_⟩
    show pm_V _ _ _ _ 13 [some (.ref 0), some (.int x0), some (.ref 55), none] [] _
    refine pm_bl [(.iconst 1, 1, 0, 0, 1)] (pc1 := 14) (lo1 := [some (.ref 0), some (.int x0), some (.ref 55), none]) (st1 := [.int 1]) (μ1 := M) (vc := True) rfl (by decide +kernel) rfl trivial ?_
    exact pm_iret (ty := .int) rfl rfl (by decide) (by decide) (by decide +kernel) h
  · intro v M hv
    obtain ⟨x, rfl, h⟩ := hP v M hv
    show pm_V _ _ _ _ 7 _ [.int x, .int 0, .ref 55] _
    refine pm_bl [(.i2l, 1, 0, 0, 0)] (pc1 := 8) (lo1 := [some (.ref 0), some (.int x0), some (.ref 55), none]) (st1 := [.long x.toInt64, .int 0, .ref 55]) (μ1 := M) (vc := True) rfl (by decide +kernel) rfl trivial ?_
    refine pm_s_last (r := 55) (n := 1) rfl rfl (by unfold vp_in; decide) (by decide +kernel) ?_
    rw [show (0 : Int32).toNatClampNeg = 0 from by decide]
    refine pm_bl [(.goto 6, 3, 15, 0, 0), (.iconst 0, 1, 0, 0, 0)] (pc1 := 16) (lo1 := [some (.ref 0), some (.int x0), some (.ref 55), none]) (st1 := [.int 0]) (μ1 := pm_setL M 0 x.toInt64) (vc := True) rfl (by decide +kernel) rfl trivial ?_
    exact pm_iret (ty := .int) rfl rfl (by decide) (by decide) (by decide +kernel) h
set_option maxHeartbeats 4000000 in
set_option maxRecDepth 100000 in
theorem c_L_daysLeft {x0 : Int32} (μ : pm_Mm) {P2 : Option Value → pm_Mm → Prop} {X2 : String → pm_Mm → Prop} (hC : pm_CT mi_X9_daysLeft [.ref 0, .int x0] μ P2 X2) (P : Option Value → pm_Mm → Prop) (hP : ∀ v M, P2 v M → ∃ x : Int32, v = some (.int x) ∧ P (some (.int 0)) (pm_setL M 0 x.toInt64)) (hX : ∀ E M, X2 E M → (E = "java/lang/IndexOutOfBoundsException" ∧ P (some (.int 1)) M) ∨ (E = "java/lang/IllegalStateException" ∧ P (some (.int 2)) M) ∨ (E = "java/util/NoSuchElementException" ∧ P (some (.int 3)) M)) : pm_CT mi_L_daysLeft [.ref 0, .int x0, .ref 55] μ P pm_NX := by
  refine pm_CT_ofH (lo := [some (.ref 0), some (.int x0), some (.ref 55), none]) (by decide +kernel) rfl rfl (by intro v hv; simp at hv; rcases hv with rfl | rfl | rfl <;> rfl) (Nat.le_of_ble_eq_true rfl) rfl ?_
  refine pm_bl [(.aload_n 2, 1, 2, 0, 0), (.iconst 0, 1, 0, 0, 0), (.aload_n 0, 1, 0, 0, 0), (.iload_n 1, 1, 1, 0, 0)] (pc1 := 4) (lo1 := [some (.ref 0), some (.int x0), some (.ref 55), none]) (st1 := [.int x0, .ref 0, .int 0, .ref 55]) (μ1 := μ) (vc := True) rfl (by decide +kernel) rfl trivial ?_
  refine pm_callVH mi_X9_daysLeft (ix := 101) (b := 0) (ci := 9) (As := [.int x0]) (rest := [.int 0, .ref 55]) hC cal_X9_daysLeft lk11_101 (by decide +kernel) (by decide +kernel) rfl rfl rfl rfl (Nat.le_of_ble_eq_true rfl) ?_ ?_
  · intro E M hE
    rcases hX E M hE with ⟨rfl, h⟩ | ⟨rfl, h⟩ | ⟨rfl, h⟩
    · refine ⟨12, ⟨[], (0, 9, 12, 21), [(0, 9, 15, 15), (0, 9, 18, 33)], "java/lang/IndexOutOfBoundsException", rfl, fun z hz => absurd hz (by simp), ⟨by decide, by decide⟩, by decide, pm_tab (i := 519) (by decide +kernel) rfl, by decide +kernel, rfl⟩, pm_q_astore_n (j := 3) (a := 3) (by decide +kernel) rfl (by decide) rfl (by simp) ?_⟩
      show pm_V _ _ _ _ 13 [some (.ref 0), some (.int x0), some (.ref 55), none] [] _
      refine pm_bl [(.iconst 1, 1, 0, 0, 1)] (pc1 := 14) (lo1 := [some (.ref 0), some (.int x0), some (.ref 55), none]) (st1 := [.int 1]) (μ1 := M) (vc := True) rfl (by decide +kernel) rfl trivial ?_
      exact pm_iret (ty := .int) rfl rfl (by decide) (by decide) (by decide +kernel) h
    · refine ⟨15, ⟨[(0, 9, 12, 21)], (0, 9, 15, 15), [(0, 9, 18, 33)], "java/lang/IllegalStateException", rfl, fun z hz => by
        simp only [List.mem_cons, List.not_mem_nil, or_false] at hz
        rcases hz with rfl
        · exact ⟨by decide, "java/lang/IndexOutOfBoundsException", pm_tab (i := 519) (by decide +kernel) rfl, by decide +kernel⟩, ⟨by decide, by decide⟩, by decide, pm_tab (i := 396) (by decide +kernel) rfl, by decide +kernel, rfl⟩, pm_q_astore_n (j := 3) (a := 3) (by decide +kernel) rfl (by decide) rfl (by simp) ?_⟩
      show pm_V _ _ _ _ 16 [some (.ref 0), some (.int x0), some (.ref 55), none] [] _
      refine pm_bl [(.iconst 2, 1, 0, 0, 2)] (pc1 := 17) (lo1 := [some (.ref 0), some (.int x0), some (.ref 55), none]) (st1 := [.int 2]) (μ1 := M) (vc := True) rfl (by decide +kernel) rfl trivial ?_
      exact pm_iret (ty := .int) rfl rfl (by decide) (by decide) (by decide +kernel) h
    · refine ⟨18, ⟨[(0, 9, 12, 21), (0, 9, 15, 15)], (0, 9, 18, 33), [], "java/util/NoSuchElementException", rfl, fun z hz => by
        simp only [List.mem_cons, List.not_mem_nil, or_false] at hz
        rcases hz with rfl | rfl
        · exact ⟨by decide, "java/lang/IndexOutOfBoundsException", pm_tab (i := 519) (by decide +kernel) rfl, by decide +kernel⟩
        · exact ⟨by decide, "java/lang/IllegalStateException", pm_tab (i := 396) (by decide +kernel) rfl, by decide +kernel⟩, ⟨by decide, by decide⟩, by decide, pm_tab (i := 613) (by decide +kernel) rfl, by decide +kernel, rfl⟩, pm_q_astore_n (j := 3) (a := 3) (by decide +kernel) rfl (by decide) rfl (by simp) ?_⟩
      show pm_V _ _ _ _ 19 [some (.ref 0), some (.int x0), some (.ref 55), none] [] _
      refine pm_bl [(.iconst 3, 1, 0, 0, 3)] (pc1 := 20) (lo1 := [some (.ref 0), some (.int x0), some (.ref 55), none]) (st1 := [.int 3]) (μ1 := M) (vc := True) rfl (by decide +kernel) rfl trivial ?_
      exact pm_iret (ty := .int) rfl rfl (by decide) (by decide) (by decide +kernel) h
  · intro v M hv
    obtain ⟨x, rfl, h⟩ := hP v M hv
    show pm_V _ _ _ _ 7 _ [.int x, .int 0, .ref 55] _
    refine pm_bl [(.i2l, 1, 0, 0, 0)] (pc1 := 8) (lo1 := [some (.ref 0), some (.int x0), some (.ref 55), none]) (st1 := [.long x.toInt64, .int 0, .ref 55]) (μ1 := M) (vc := True) rfl (by decide +kernel) rfl trivial ?_
    refine pm_s_last (r := 55) (n := 1) rfl rfl (by unfold vp_in; decide) (by decide +kernel) ?_
    rw [show (0 : Int32).toNatClampNeg = 0 from by decide]
    refine pm_bl [(.goto 12, 3, 21, 0, 0), (.iconst 0, 1, 0, 0, 0)] (pc1 := 22) (lo1 := [some (.ref 0), some (.int x0), some (.ref 55), none]) (st1 := [.int 0]) (μ1 := pm_setL M 0 x.toInt64) (vc := True) rfl (by decide +kernel) rfl trivial ?_
    exact pm_iret (ty := .int) rfl rfl (by decide) (by decide) (by decide +kernel) h
set_option maxHeartbeats 4000000 in
set_option maxRecDepth 100000 in
theorem c_L_pass {x0 : Int32} (μ : pm_Mm) {P2 : Option Value → pm_Mm → Prop} {X2 : String → pm_Mm → Prop} (hC : pm_CT mi_X9_pass [.ref 0, .int x0] μ P2 X2) (P : Option Value → pm_Mm → Prop) (hP : ∀ v M, P2 v M → ∃ x : Int32, v = some (.int x) ∧ P (some (.int 0)) (pm_setL M 0 x.toInt64)) (hX : ∀ E M, X2 E M → (E = "java/lang/IllegalArgumentException" ∧ P (some (.int 1)) M)) : pm_CT mi_L_pass [.ref 0, .int x0, .ref 55] μ P pm_NX := by
  refine pm_CT_ofH (lo := [some (.ref 0), some (.int x0), some (.ref 55), none]) (by decide +kernel) rfl rfl (by intro v hv; simp at hv; rcases hv with rfl | rfl | rfl <;> rfl) (Nat.le_of_ble_eq_true rfl) rfl ?_
  refine pm_bl [(.aload_n 2, 1, 2, 0, 0), (.iconst 0, 1, 0, 0, 0), (.aload_n 0, 1, 0, 0, 0), (.iload_n 1, 1, 1, 0, 0)] (pc1 := 4) (lo1 := [some (.ref 0), some (.int x0), some (.ref 55), none]) (st1 := [.int x0, .ref 0, .int 0, .ref 55]) (μ1 := μ) (vc := True) rfl (by decide +kernel) rfl trivial ?_
  refine pm_callVH mi_X9_pass (ix := 104) (b := 0) (ci := 9) (As := [.int x0]) (rest := [.int 0, .ref 55]) hC cal_X9_pass lk11_104 (by decide +kernel) (by decide +kernel) rfl rfl rfl rfl (Nat.le_of_ble_eq_true rfl) ?_ ?_
  · intro E M hE
    obtain ⟨rfl, h⟩ := hX E M hE
    refine ⟨12, ⟨[], (0, 9, 12, 13), [], "java/lang/IllegalArgumentException", rfl, fun z hz => absurd hz (by simp), ⟨by decide, by decide⟩, by decide, pm_tab (i := 395) (by decide +kernel) rfl, by decide +kernel, rfl⟩, pm_q_astore_n (j := 3) (a := 3) (by decide +kernel) rfl (by decide) rfl (by simp) ?_⟩
    show pm_V _ _ _ _ 13 [some (.ref 0), some (.int x0), some (.ref 55), none] [] _
    refine pm_bl [(.iconst 1, 1, 0, 0, 1)] (pc1 := 14) (lo1 := [some (.ref 0), some (.int x0), some (.ref 55), none]) (st1 := [.int 1]) (μ1 := M) (vc := True) rfl (by decide +kernel) rfl trivial ?_
    exact pm_iret (ty := .int) rfl rfl (by decide) (by decide) (by decide +kernel) h
  · intro v M hv
    obtain ⟨x, rfl, h⟩ := hP v M hv
    show pm_V _ _ _ _ 7 _ [.int x, .int 0, .ref 55] _
    refine pm_bl [(.i2l, 1, 0, 0, 0)] (pc1 := 8) (lo1 := [some (.ref 0), some (.int x0), some (.ref 55), none]) (st1 := [.long x.toInt64, .int 0, .ref 55]) (μ1 := M) (vc := True) rfl (by decide +kernel) rfl trivial ?_
    refine pm_s_last (r := 55) (n := 1) rfl rfl (by unfold vp_in; decide) (by decide +kernel) ?_
    rw [show (0 : Int32).toNatClampNeg = 0 from by decide]
    refine pm_bl [(.goto 6, 3, 15, 0, 0), (.iconst 0, 1, 0, 0, 0)] (pc1 := 16) (lo1 := [some (.ref 0), some (.int x0), some (.ref 55), none]) (st1 := [.int 0]) (μ1 := pm_setL M 0 x.toInt64) (vc := True) rfl (by decide +kernel) rfl trivial ?_
    exact pm_iret (ty := .int) rfl rfl (by decide) (by decide) (by decide +kernel) h
set_option maxHeartbeats 4000000 in
set_option maxRecDepth 100000 in
theorem c_L_account {x0 : Int32} (μ : pm_Mm) {P2 : Option Value → pm_Mm → Prop} {X2 : String → pm_Mm → Prop} (hC : pm_CT mi_X9_account [.ref 0, .int x0] μ P2 X2) (P : Option Value → pm_Mm → Prop) (hP : ∀ v M, P2 v M → ∃ x : Int32, v = some (.int x) ∧ P (some (.int 0)) (pm_setL M 0 x.toInt64)) (hX : ∀ E M, X2 E M → (E = "java/lang/IllegalArgumentException" ∧ P (some (.int 1)) M)) : pm_CT mi_L_account [.ref 0, .int x0, .ref 55] μ P pm_NX := by
  refine pm_CT_ofH (lo := [some (.ref 0), some (.int x0), some (.ref 55), none]) (by decide +kernel) rfl rfl (by intro v hv; simp at hv; rcases hv with rfl | rfl | rfl <;> rfl) (Nat.le_of_ble_eq_true rfl) rfl ?_
  refine pm_bl [(.aload_n 2, 1, 2, 0, 0), (.iconst 0, 1, 0, 0, 0), (.aload_n 0, 1, 0, 0, 0), (.iload_n 1, 1, 1, 0, 0)] (pc1 := 4) (lo1 := [some (.ref 0), some (.int x0), some (.ref 55), none]) (st1 := [.int x0, .ref 0, .int 0, .ref 55]) (μ1 := μ) (vc := True) rfl (by decide +kernel) rfl trivial ?_
  refine pm_callVH mi_X9_account (ix := 107) (b := 0) (ci := 9) (As := [.int x0]) (rest := [.int 0, .ref 55]) hC cal_X9_account lk11_107 (by decide +kernel) (by decide +kernel) rfl rfl rfl rfl (Nat.le_of_ble_eq_true rfl) ?_ ?_
  · intro E M hE
    obtain ⟨rfl, h⟩ := hX E M hE
    refine ⟨12, ⟨[], (0, 9, 12, 13), [], "java/lang/IllegalArgumentException", rfl, fun z hz => absurd hz (by simp), ⟨by decide, by decide⟩, by decide, pm_tab (i := 395) (by decide +kernel) rfl, by decide +kernel, rfl⟩, pm_q_astore_n (j := 3) (a := 3) (by decide +kernel) rfl (by decide) rfl (by simp) ?_⟩
    show pm_V _ _ _ _ 13 [some (.ref 0), some (.int x0), some (.ref 55), none] [] _
    refine pm_bl [(.iconst 1, 1, 0, 0, 1)] (pc1 := 14) (lo1 := [some (.ref 0), some (.int x0), some (.ref 55), none]) (st1 := [.int 1]) (μ1 := M) (vc := True) rfl (by decide +kernel) rfl trivial ?_
    exact pm_iret (ty := .int) rfl rfl (by decide) (by decide) (by decide +kernel) h
  · intro v M hv
    obtain ⟨x, rfl, h⟩ := hP v M hv
    show pm_V _ _ _ _ 7 _ [.int x, .int 0, .ref 55] _
    refine pm_bl [(.i2l, 1, 0, 0, 0)] (pc1 := 8) (lo1 := [some (.ref 0), some (.int x0), some (.ref 55), none]) (st1 := [.long x.toInt64, .int 0, .ref 55]) (μ1 := M) (vc := True) rfl (by decide +kernel) rfl trivial ?_
    refine pm_s_last (r := 55) (n := 1) rfl rfl (by unfold vp_in; decide) (by decide +kernel) ?_
    rw [show (0 : Int32).toNatClampNeg = 0 from by decide]
    refine pm_bl [(.goto 6, 3, 15, 0, 0), (.iconst 0, 1, 0, 0, 0)] (pc1 := 16) (lo1 := [some (.ref 0), some (.int x0), some (.ref 55), none]) (st1 := [.int 0]) (μ1 := pm_setL M 0 x.toInt64) (vc := True) rfl (by decide +kernel) rfl trivial ?_
    exact pm_iret (ty := .int) rfl rfl (by decide) (by decide) (by decide +kernel) h
set_option maxHeartbeats 4000000 in
set_option maxRecDepth 100000 in
theorem c_L_returned {x0 : Int32} (μ : pm_Mm) {P2 : Option Value → pm_Mm → Prop} {X2 : String → pm_Mm → Prop} (hC : pm_CT mi_X9_returned [.ref 0, .int x0] μ P2 X2) (P : Option Value → pm_Mm → Prop) (hP : ∀ v M, P2 v M → ∃ x : Int32, v = some (.int x) ∧ P (some (.int 0)) (pm_setL M 0 x.toInt64)) (hX : ∀ E M, X2 E M → (E = "java/lang/IllegalArgumentException" ∧ P (some (.int 1)) M)) : pm_CT mi_L_returned [.ref 0, .int x0, .ref 55] μ P pm_NX := by
  refine pm_CT_ofH (lo := [some (.ref 0), some (.int x0), some (.ref 55), none]) (by decide +kernel) rfl rfl (by intro v hv; simp at hv; rcases hv with rfl | rfl | rfl <;> rfl) (Nat.le_of_ble_eq_true rfl) rfl ?_
  refine pm_bl [(.aload_n 2, 1, 2, 0, 0), (.iconst 0, 1, 0, 0, 0), (.aload_n 0, 1, 0, 0, 0), (.iload_n 1, 1, 1, 0, 0)] (pc1 := 4) (lo1 := [some (.ref 0), some (.int x0), some (.ref 55), none]) (st1 := [.int x0, .ref 0, .int 0, .ref 55]) (μ1 := μ) (vc := True) rfl (by decide +kernel) rfl trivial ?_
  refine pm_callVH mi_X9_returned (ix := 110) (b := 0) (ci := 9) (As := [.int x0]) (rest := [.int 0, .ref 55]) hC cal_X9_returned lk11_110 (by decide +kernel) (by decide +kernel) rfl rfl rfl rfl (Nat.le_of_ble_eq_true rfl) ?_ ?_
  · intro E M hE
    obtain ⟨rfl, h⟩ := hX E M hE
    refine ⟨12, ⟨[], (0, 9, 12, 13), [], "java/lang/IllegalArgumentException", rfl, fun z hz => absurd hz (by simp), ⟨by decide, by decide⟩, by decide, pm_tab (i := 395) (by decide +kernel) rfl, by decide +kernel, rfl⟩, pm_q_astore_n (j := 3) (a := 3) (by decide +kernel) rfl (by decide) rfl (by simp) ?_⟩
    show pm_V _ _ _ _ 13 [some (.ref 0), some (.int x0), some (.ref 55), none] [] _
    refine pm_bl [(.iconst 1, 1, 0, 0, 1)] (pc1 := 14) (lo1 := [some (.ref 0), some (.int x0), some (.ref 55), none]) (st1 := [.int 1]) (μ1 := M) (vc := True) rfl (by decide +kernel) rfl trivial ?_
    exact pm_iret (ty := .int) rfl rfl (by decide) (by decide) (by decide +kernel) h
  · intro v M hv
    obtain ⟨x, rfl, h⟩ := hP v M hv
    show pm_V _ _ _ _ 7 _ [.int x, .int 0, .ref 55] _
    refine pm_bl [(.i2l, 1, 0, 0, 0)] (pc1 := 8) (lo1 := [some (.ref 0), some (.int x0), some (.ref 55), none]) (st1 := [.long x.toInt64, .int 0, .ref 55]) (μ1 := M) (vc := True) rfl (by decide +kernel) rfl trivial ?_
    refine pm_s_last (r := 55) (n := 1) rfl rfl (by unfold vp_in; decide) (by decide +kernel) ?_
    rw [show (0 : Int32).toNatClampNeg = 0 from by decide]
    refine pm_bl [(.goto 6, 3, 15, 0, 0), (.iconst 0, 1, 0, 0, 0)] (pc1 := 16) (lo1 := [some (.ref 0), some (.int x0), some (.ref 55), none]) (st1 := [.int 0]) (μ1 := pm_setL M 0 x.toInt64) (vc := True) rfl (by decide +kernel) rfl trivial ?_
    exact pm_iret (ty := .int) rfl rfl (by decide) (by decide) (by decide +kernel) h
set_option maxHeartbeats 4000000 in
set_option maxRecDepth 100000 in
theorem c_L_meanDays (μ : pm_Mm) {P2 : Option Value → pm_Mm → Prop} {X2 : String → pm_Mm → Prop} (hC : pm_CT mi_X9_meanDays [.ref 0] μ P2 X2) (P : Option Value → pm_Mm → Prop) (hP : ∀ v M, P2 v M → ∃ x : UInt64, v = some (.double x) ∧ P (some (.int 0)) (pm_setD M 0 x)) (hX : ∀ E M, X2 E M → (E = "java/lang/ArithmeticException" ∧ P (some (.int 1)) M)) : pm_CT mi_L_meanDays [.ref 0, .ref 56] μ P pm_NX := by
  refine pm_CT_ofH (lo := [some (.ref 0), some (.ref 56), none]) (by decide +kernel) rfl rfl (by intro v hv; simp at hv; rcases hv with rfl | rfl <;> rfl) (Nat.le_of_ble_eq_true rfl) rfl ?_
  refine pm_bl [(.aload_n 1, 1, 1, 0, 0), (.iconst 0, 1, 0, 0, 0), (.aload_n 0, 1, 0, 0, 0)] (pc1 := 3) (lo1 := [some (.ref 0), some (.ref 56), none]) (st1 := [.ref 0, .int 0, .ref 56]) (μ1 := μ) (vc := True) rfl (by decide +kernel) rfl trivial ?_
  refine pm_callVH mi_X9_meanDays (ix := 113) (b := 0) (ci := 9) (As := []) (rest := [.int 0, .ref 56]) hC cal_X9_meanDays lk11_113 (by decide +kernel) (by decide +kernel) rfl rfl rfl rfl (Nat.le_of_ble_eq_true rfl) ?_ ?_
  · intro E M hE
    obtain ⟨rfl, h⟩ := hX E M hE
    refine ⟨10, ⟨[], (0, 7, 10, 117), [], "java/lang/ArithmeticException", rfl, fun z hz => absurd hz (by simp), ⟨by decide, by decide⟩, by decide, pm_tab (i := 1238) (by decide +kernel) rfl, by decide +kernel, rfl⟩, pm_q_astore_n (j := 2) (a := 2) (by decide +kernel) rfl (by decide) rfl (by simp) ?_⟩
    show pm_V _ _ _ _ 11 [some (.ref 0), some (.ref 56), none] [] _
    refine pm_bl [(.iconst 1, 1, 0, 0, 1)] (pc1 := 12) (lo1 := [some (.ref 0), some (.ref 56), none]) (st1 := [.int 1]) (μ1 := M) (vc := True) rfl (by decide +kernel) rfl trivial ?_
    exact pm_iret (ty := .int) rfl rfl (by decide) (by decide) (by decide +kernel) h
  · intro v M hv
    obtain ⟨x, rfl, h⟩ := hP v M hv
    show pm_V _ _ _ _ 6 _ [.double x, .int 0, .ref 56] _
    refine pm_s_dast (r := 56) (n := 1) rfl rfl (by unfold vp_in; decide) (by decide +kernel) ?_
    rw [show (0 : Int32).toNatClampNeg = 0 from by decide]
    refine pm_bl [(.goto 6, 3, 13, 0, 0), (.iconst 0, 1, 0, 0, 0)] (pc1 := 14) (lo1 := [some (.ref 0), some (.ref 56), none]) (st1 := [.int 0]) (μ1 := pm_setD M 0 x) (vc := True) rfl (by decide +kernel) rfl trivial ?_
    exact pm_iret (ty := .int) rfl rfl (by decide) (by decide) (by decide +kernel) h
set_option maxHeartbeats 4000000 in
set_option maxRecDepth 100000 in
theorem c_L_undo (μ : pm_Mm) {P2 : Option Value → pm_Mm → Prop} {X2 : String → pm_Mm → Prop} (hC : pm_CT mi_X9_undo [.ref 0] μ P2 X2) (P : Option Value → pm_Mm → Prop) (hP : ∀ v M, P2 v M → ∃ x : Int32, v = some (.int x) ∧ P (some (.int 0)) (pm_setL M 0 x.toInt64)) (hX : ∀ E M, X2 E M → (E = "java/lang/IllegalStateException" ∧ P (some (.int 1)) M)) : pm_CT mi_L_undo [.ref 0, .ref 55] μ P pm_NX := by
  refine pm_CT_ofH (lo := [some (.ref 0), some (.ref 55), none]) (by decide +kernel) rfl rfl (by intro v hv; simp at hv; rcases hv with rfl | rfl <;> rfl) (Nat.le_of_ble_eq_true rfl) rfl ?_
  refine pm_bl [(.aload_n 1, 1, 1, 0, 0), (.iconst 0, 1, 0, 0, 0), (.aload_n 0, 1, 0, 0, 0)] (pc1 := 3) (lo1 := [some (.ref 0), some (.ref 55), none]) (st1 := [.ref 0, .int 0, .ref 55]) (μ1 := μ) (vc := True) rfl (by decide +kernel) rfl trivial ?_
  refine pm_callVH mi_X9_undo (ix := 119) (b := 0) (ci := 9) (As := []) (rest := [.int 0, .ref 55]) hC cal_X9_undo lk11_119 (by decide +kernel) (by decide +kernel) rfl rfl rfl rfl (Nat.le_of_ble_eq_true rfl) ?_ ?_
  · intro E M hE
    obtain ⟨rfl, h⟩ := hX E M hE
    refine ⟨11, ⟨[], (0, 8, 11, 15), [], "java/lang/IllegalStateException", rfl, fun z hz => absurd hz (by simp), ⟨by decide, by decide⟩, by decide, pm_tab (i := 396) (by decide +kernel) rfl, by decide +kernel, rfl⟩, pm_q_astore_n (j := 2) (a := 2) (by decide +kernel) rfl (by decide) rfl (by simp) ?_⟩
    show pm_V _ _ _ _ 12 [some (.ref 0), some (.ref 55), none] [] _
    refine pm_bl [(.iconst 1, 1, 0, 0, 1)] (pc1 := 13) (lo1 := [some (.ref 0), some (.ref 55), none]) (st1 := [.int 1]) (μ1 := M) (vc := True) rfl (by decide +kernel) rfl trivial ?_
    exact pm_iret (ty := .int) rfl rfl (by decide) (by decide) (by decide +kernel) h
  · intro v M hv
    obtain ⟨x, rfl, h⟩ := hP v M hv
    show pm_V _ _ _ _ 6 _ [.int x, .int 0, .ref 55] _
    refine pm_bl [(.i2l, 1, 0, 0, 0)] (pc1 := 7) (lo1 := [some (.ref 0), some (.ref 55), none]) (st1 := [.long x.toInt64, .int 0, .ref 55]) (μ1 := M) (vc := True) rfl (by decide +kernel) rfl trivial ?_
    refine pm_s_last (r := 55) (n := 1) rfl rfl (by unfold vp_in; decide) (by decide +kernel) ?_
    rw [show (0 : Int32).toNatClampNeg = 0 from by decide]
    refine pm_bl [(.goto 6, 3, 14, 0, 0), (.iconst 0, 1, 0, 0, 0)] (pc1 := 15) (lo1 := [some (.ref 0), some (.ref 55), none]) (st1 := [.int 0]) (μ1 := pm_setL M 0 x.toInt64) (vc := True) rfl (by decide +kernel) rfl trivial ?_
    exact pm_iret (ty := .int) rfl rfl (by decide) (by decide) (by decide +kernel) h
set_option maxHeartbeats 4000000 in
set_option maxRecDepth 100000 in
theorem c_L_restore (μ : pm_Mm) {P2 : Option Value → pm_Mm → Prop} {X2 : String → pm_Mm → Prop} (hC : pm_CT mi_X9_restore [.ref 0] μ P2 X2) (P : Option Value → pm_Mm → Prop) (hP : ∀ v M, P2 v M → v = none ∧ P (some (.int 0)) M) (hX : ∀ E M, X2 E M → (E = "java/lang/IllegalStateException" ∧ P (some (.int 1)) M)) : pm_CT mi_L_restore [.ref 0] μ P pm_NX := by
  refine pm_CT_ofH (lo := [some (.ref 0), none]) (by decide +kernel) rfl rfl (by intro v hv; simp at hv; rcases hv with rfl <;> rfl) (Nat.le_of_ble_eq_true rfl) rfl ?_
  refine pm_bl [(.aload_n 0, 1, 0, 0, 0)] (pc1 := 1) (lo1 := [some (.ref 0), none]) (st1 := [.ref 0]) (μ1 := μ) (vc := True) rfl (by decide +kernel) rfl trivial ?_
  refine pm_callVH mi_X9_restore (ix := 122) (b := 0) (ci := 9) (As := []) (rest := []) hC cal_X9_restore lk11_122 (by decide +kernel) (by decide +kernel) rfl rfl rfl rfl (Nat.le_of_ble_eq_true rfl) ?_ ?_
  · intro E M hE
    obtain ⟨rfl, h⟩ := hX E M hE
    refine ⟨7, ⟨[], (0, 4, 7, 15), [], "java/lang/IllegalStateException", rfl, fun z hz => absurd hz (by simp), ⟨by decide, by decide⟩, by decide, pm_tab (i := 396) (by decide +kernel) rfl, by decide +kernel, rfl⟩, pm_q_astore_n (j := 1) (a := 1) (by decide +kernel) rfl (by decide) rfl (by simp) ?_⟩
    show pm_V _ _ _ _ 8 [some (.ref 0), none] [] _
    refine pm_bl [(.iconst 1, 1, 0, 0, 1)] (pc1 := 9) (lo1 := [some (.ref 0), none]) (st1 := [.int 1]) (μ1 := M) (vc := True) rfl (by decide +kernel) rfl trivial ?_
    exact pm_iret (ty := .int) rfl rfl (by decide) (by decide) (by decide +kernel) h
  · intro v M hv
    obtain ⟨rfl, h⟩ := hP v M hv
    show pm_V _ _ _ _ 4 _ [] _
    refine pm_bl [(.goto 6, 3, 10, 0, 0), (.iconst 0, 1, 0, 0, 0)] (pc1 := 11) (lo1 := [some (.ref 0), none]) (st1 := [.int 0]) (μ1 := M) (vc := True) rfl (by decide +kernel) rfl trivial ?_
    exact pm_iret (ty := .int) rfl rfl (by decide) (by decide) (by decide +kernel) h
