/-! a builder beside the flat list -/
/-- the place 2000 is b -/
def sb_ax (ad : Nat → Nat) (b : Nat) : Nat → Nat := fun i => if i = 2000 then b else ad i
theorem sb_refs : pm_sh.all (fun x => match x with | .inr (_, fs) => fs.all (fun o => match o with | some r => Nat.blt r 408 | none => true) | _ => true) = true := by decide +kernel
theorem sb_ce_ax {tc : Nat → ClassId} {ad : Nat → Nat} {b i : Nat} {μ : pm_Mm} {x : pm_Sh} (hx : pm_sh[i]? = some x) : pm_ce tc (sb_ax ad b) μ i x = pm_ce tc ad μ i x := by
  have hm := List.all_eq_true.mp sb_refs x (List.mem_of_getElem? hx)
  rcases x with ⟨t, n⟩ | ⟨ci, fs⟩
  · unfold pm_ce
    split <;> first | rfl | (rename_i h9; cases h9; done) | skip
    congr 7
    funext k
    show some (sb_ax ad b (96 + 39 * k)) = some (ad (96 + 39 * k))
    rw [sb_ax, if_neg (by omega)]
  · show (Sum.inr (ci, fs.mapIdx _) : va_E) = Sum.inr (ci, fs.mapIdx _)
    congr 2
    apply List.ext_getElem?
    intro k
    rw [List.getElem?_mapIdx, List.getElem?_mapIdx]
    cases hk : fs[k]? with
    | none => rfl
    | some o =>
      cases o with
      | none => rfl
      | some r =>
        have hr := List.all_eq_true.mp hm (some r) (List.mem_of_getElem? hk)
        have hr2 : r < 408 := Nat.blt_eq.mp hr
        show some (Value.ref (sb_ax ad b r)) = some (Value.ref (ad r))
        rw [sb_ax, if_neg (by omega)]
theorem sb_ws_ax {tc : Nat → ClassId} {ad : Nat → Nat} {b : Nat} {μ : pm_Mm} : pm_ws tc (sb_ax ad b) μ = pm_ws tc ad μ := by
  unfold pm_ws
  refine congrArg (fun w => w ++ μ.2.2.2) ?_
  apply List.ext_getElem?
  intro i
  rw [List.getElem?_mapIdx, List.getElem?_mapIdx]
  cases hx : pm_sh[i]? with
  | none => rfl
  | some x =>
    have hi : i < 408 := by rw [← pm_sh_n]; exact (List.getElem?_eq_some_iff.mp hx).1
    show some (sb_ax ad b i, pm_ce tc (sb_ax ad b) μ i x) = some (ad i, pm_ce tc ad μ i x)
    rw [sb_ce_ax hx, sb_ax, if_neg (by omega)]
theorem sb_rv_ax {ad : Nat → Nat} {b : Nat} {v : Value} (h : v ≠ .ref 2000) : pm_rv (sb_ax ad b) v = pm_rv ad v := by
  cases v with
  | ref r =>
    show Value.ref (sb_ax ad b r) = Value.ref (ad r)
    rw [sb_ax, if_neg (fun e => h (by rw [e]))]
  | _ => rfl
/-- the same memory, other cells beside it -/
abbrev sb_m (μ : pm_Mm) (E : va_W) : pm_Mm := (μ.1, μ.2.1, μ.2.2.1, E)
theorem sb_ws_m {tc : Nat → ClassId} {ad : Nat → Nat} {μ : pm_Mm} {E : va_W} : pm_ws tc ad (sb_m μ E) = pm_sh.mapIdx (fun i x => (ad i, pm_ce tc ad μ i x)) ++ E := by
  unfold pm_ws
  congr 1
def sb_Tie (b : Nat) (c5 : ClassId) : State → (Nat → Prop) → (Nat → Nat) → Prop := fun s _ ad => s.vm.findClass ("[" ++ (FieldType.byte).toString) = some c5 ∧ ad 2000 = b
theorem sb_tc5 {s : State} {A : Nat → Prop} {D : va_G} {tc : Nat → ClassId} (h : pm_St0 s A D tc) : s.vm.findClass ("[" ++ (FieldType.byte).toString) = some (tc 5) := (h.1.2 5 (tc 5, .byte) rfl).2
theorem sb_gm_pm {D : va_G} {tc : Nat → ClassId} {ad : Nat → Nat} {mi : pm_Mi} {P : Option Value → pm_Mm → Prop} {Pg : Option Value → va_W → Prop} {kc ks pc : Nat} {lo : List (Option Value)} {st : List Value} {μ : pm_Mm} {b : Nat} {c5 : ClassId} (hc5 : tc 5 = c5) (hb0 : ad 2000 = b) (hPg : ∀ v M, P v M → Pg (v.map (pm_rv ad)) (pm_ws tc ad M))
    (k : pm_V mi (P, pm_NX, sb_Tie b c5) kc ks pc lo st μ) : gm_V D tc mi Pg kc ks pc (lo.map (Option.map (pm_rv ad))) (st.map (pm_rv ad)) (pm_ws tc ad μ) := by
  intro p l e s m args below meth c A hO H locs cells slots ls hc hs hP hD hS hlv
  obtain ⟨hx, hb, hml, hown, hts, hr, hlk, htr, hst, hA, hnm, htab⟩ := id hO
  have hlv2 : pm_LV ad ls (pm_nL mi) lo := ⟨hlv.1, hlv.2.1, fun i v hv => by
    have h9 := hlv.2.2 i (pm_rv ad v) (by rw [List.getElem?_map, hv]; rfl)
    rw [pm_rv_id] at h9
    exact h9⟩
  have h1 := k p l e s m args below meth c D tc ad A ⟨hx, hb, hml, hown, hts, hr, hlk, htr, hst, hA, htab, by rw [← hc5]; exact sb_tc5 hst, hb0⟩ H locs cells slots ls hc hs hP hD hS hlv2
  intro T hT X
  obtain ⟨t, a1, o, b1, b2, b3⟩ := h1 T hT X
  refine ⟨t, a1, o, b1, b2, ?_⟩
  rcases b3 with ⟨⟨⟨v, M, e1, e2, e3, e4⟩, e5⟩, e6⟩ | ⟨q, e0, E, ce, L, ⟨⟨M, hf, -⟩, -⟩, -⟩
  · exact ⟨⟨⟨_, _, e1, hPg v M e2, e3, e4⟩, e5⟩, e6⟩
  · exact hf.elim
/-- a method that is given the builder at the place 2000 -/
def pm_CTt (mi : pm_Mi) (av : List Value) (μ : pm_Mm) (P : Option Value → pm_Mm → Prop) (b : Nat) (c5 : ClassId) : Prop :=
  ∀ (D : va_G) (tc : Nat → ClassId) (ad : Nat → Nat), tc 5 = c5 → ad 2000 = b → gm_CT D tc mi (av.map (pm_rv ad)) (pm_ws tc ad μ) (fun v w => ∃ v2 M, v = v2.map (pm_rv ad) ∧ P v2 M ∧ w = pm_ws tc ad M)
/-- a method that makes a builder -/
def pm_CB (mi : pm_Mi) (av : List Value) (μ : pm_Mm) (P : ClassId → Nat → pm_Mm → Prop) : Prop :=
  ∀ (D : va_G) (tc : Nat → ClassId) (ad : Nat → Nat), gm_CT D tc mi (av.map (pm_rv ad)) (pm_ws tc ad μ) (fun v w => ∃ b M, v = some (.ref b) ∧ P (tc 5) b M ∧ w = pm_ws tc ad M)
theorem pm_CTt_of {mi : pm_Mi} {av : List Value} {μ : pm_Mm} {P : Option Value → pm_Mm → Prop} {b : Nat} {c5 : ClassId} {lo : List (Option Value)} (hy : plainName (pm_y mi).cls = true) (hcls : (pm_y mi).cls = pm_R (pm_id mi)) (hh : pm_hh mi = []) (h1 : ∀ v ∈ av, v.category = 1) (hl : av.length ≤ pm_nL mi) (hlo : lo = av.map some ++ List.replicate (pm_nL mi - av.length) none)
    (k : pm_V mi (P, pm_NX, sb_Tie b c5) 0 0 0 lo [] μ) : pm_CTt mi av μ P b c5 := by
  intro D tc ad h5 hb
  refine gm_CT_of (lo := lo.map (Option.map (pm_rv ad))) hy hcls hh (by intro v hv; obtain ⟨u, hu, rfl⟩ := List.mem_map.mp hv; rw [pm_rv_cat]; exact h1 u hu) (by rw [List.length_map]; exact hl) ?_ (sb_gm_pm h5 hb (fun v M h => ⟨v, M, rfl, h, rfl⟩) k)
  rw [hlo, List.map_append, List.map_map, List.map_map, List.map_replicate, List.length_map]
  rfl
section SBG
variable {mi : pm_Mi} {P : Option Value → pm_Mm → Prop} {X : String → pm_Mm → Prop} {T : pm_Tg} {kc ks pc : Nat} {lo : List (Option Value)} {st : List Value} {μ : pm_Mm} {b : Nat} {c5 : ClassId}
/-- a call of the builder's own methods -/
theorem sb_call (mi2 : pm_Mi) {ix n kc2 ks2 : Nat} {As rest : List Value} {wc wr : va_W} {fs : List Value} {P2 : Option Value → va_W → Prop} (vr : Option Value) (hM : ∀ (D : va_G) (tc : Nat → ClassId), tc 5 = c5 → gm_CT D tc mi2 (.ref b :: As) wc P2) (hE : μ.2.2.2 = wc ++ wr) (hcal : pm_Cal mi2 n) (hi : Cond.instanceMethod (pm_y mi2) ∈ pm_good) (hse : Cond.selects RJ4 (pm_y mi2) (pm_y mi2) ∈ pm_good) (hl : Cond.methodLink (pm_R (pm_id mi)) ix (pm_y mi2) ∈ pm_good) (hf : pm_fit mi mi2 kc ks = true)
    (hd : decode (pm_cc mi) pc = .ok (.invokevirtual ix, 3)) (hn : As.length = n) (hAs : ∀ ad, As.map (pm_rv ad) = As) (hw0 : wc[0]? = some (b, .inr (11, fs))) (hst0 : st = As.reverse ++ .ref 2000 :: rest) (hW : (rest.map fun v => v.category).sum ≤ 8) (g1 : kc + (pm_rm mi2).cells ≤ kc2) (g2 : ks + (pm_rm mi2).slots ≤ ks2)
    (hv : ∀ v w1, P2 v w1 → ∀ ad : Nat → Nat, ad 2000 = b → v = vr.map (pm_rv ad)) (k : ∀ v w1, P2 v w1 → pm_V mi (P, X, sb_Tie b c5) kc2 ks2 (pc + 3) lo (vr.toList ++ rest) (sb_m μ (w1 ++ wr))) : pm_V mi (P, X, sb_Tie b c5) kc ks pc lo st μ := by
  intro p l e s m args below meth c D tc ad A hO H locs cells slots ls hc hs hP hD hS hlv
  obtain ⟨hx, hb, hml, hown, hts, hr, hlk, htr, hst, hA, htab, hz1, hz2⟩ := id hO
  have h5 : tc 5 = c5 := Option.some.inj ((sb_tc5 hst).symm.trans hz1)
  have hf2 := hf
  simp only [pm_fit, Bool.and_eq_true, decide_eq_true_eq] at hf2
  have hw9 : pm_ws tc ad μ = pm_sh.mapIdx (fun i x => (ad i, pm_ce tc ad μ i x)) ++ (wc ++ wr) := by unfold pm_ws; rw [hE]
  rw [hw9] at hP hD
  have hp9 := List.perm_append_comm_assoc (pm_sh.mapIdx (fun i x => (ad i, pm_ce tc ad μ i x))) wc wr
  have hP' := gm_P_mem hP (fun q hq => hp9.mem_iff.mpr hq)
  have hD' := gm_D_perm hD hp9
  have hsub := gm_sub rfl hD' hS hA
  have hPc : va_P D pm_cl wc H := gm_P_mem hP' (fun q hq => List.mem_append_left _ hq)
  have hDc : va_D A wc := gm_D_left hD'
  have hcb := pm_callB (mi := mi) (kc := kc) (ks := ks) hts hcal hl hf
  have hrun := va_runV (Ts := pm_good) (own := pm_R (pm_id mi)) (C := RJ4) (As := As) (b := b) (rest := rest.map (pm_rv ad)) (g := F0 m pc ls (st.map (pm_rv ad))) (H := H) (locs := locs) (cells := cells) (slots := slots) (e := e) (below := below) (meth := meth) ⟨hx, hb, hml, hown, hts⟩ (hM D tc h5 l H.size htr) ⟨hcb, hts _ hi, hts _ hse⟩
    ⟨gm_Pc_blind, va_recv (q := (RJ4, TJ4, 4)) hst.1 hPc rfl hw0, fun U hU hW9 => ⟨rfl, by rw [hU], by rw [hU]; exact hPc, hDc.weaken (fun _ _ _ _ => trivial), hst.go hW9 hU hS hsub⟩⟩ rfl hn hlv.1 (by rw [hst0, List.map_append, List.map_reverse, hAs, ← hz2]; rfl)
    (by rw [pm_cats]; simpa [JFrame.monitorRoom] using hW) hd ⟨Nat.le_trans (Nat.add_le_add_right hc _) hf2.2.2.1, Nat.le_trans (Nat.add_le_add_right hs _) hf2.2.2.2⟩
  intro T0 hT0 X0
  obtain ⟨v, st₀, t, T', L, h0, X', hL, e1, e2, ⟨⟨v', w1, hv1, hp, hP2, hD2⟩, hF⟩, stp⟩ := hrun T0 hT0 X0
  have hv2 : v = v' := by injection hv1
  subst hv2
  obtain ⟨k1, k2, k3⟩ := vx_keep h0 e1 hS (fun q _ h => hsub q h) hsub hL hF
  obtain ⟨j1, j2⟩ := gm_join hP' hD' k2 hsub (by rw [e1]; exact hP2) hD2
  have hp2 := List.perm_append_comm_assoc w1 (pm_sh.mapIdx (fun i x => (ad i, pm_ce tc ad μ i x))) wr
  have hv3 := hv v w1 hp ad hz2
  obtain ⟨t2, a1, b1⟩ := k v w1 hp p l e s m args below meth c D tc ad A hO T'.heap (locs ++ L) _ _ ls (Nat.le_trans (Nat.add_le_add_right hc _) g1) (Nat.le_trans (Nat.add_le_add_right hs _) g2) (by rw [sb_ws_m]; exact gm_P_mem j1 (fun q hq => hp2.mem_iff.mpr hq)) (by rw [sb_ws_m]; exact gm_D_perm j2 hp2) k3 hlv T' rfl X'
  rw [← pm_stk, ← hv3] at a1
  exact ⟨t2, stp t2 a1, b1⟩
/-- a call that hands the builder on -/
theorem sb_callT (mi2 : pm_Mi) {ix r ci n kc2 ks2 : Nat} {As rest : List Value} {fs : List (Option Nat)} {P2 : Option Value → pm_Mm → Prop} (hM : pm_CTt mi2 (.ref r :: As) μ P2 b c5) (hcal : pm_CalV mi2 n) (hl : Cond.methodLink (pm_R (pm_id mi)) ix (pm_y mi2) ∈ pm_good) (hf : pm_fit mi mi2 kc ks = true)
    (hd : decode (pm_cc mi) pc = .ok (.invokevirtual ix, 3)) (hn : As.length = n) (hsh : pm_sh[r]? = some (.inr (ci, fs))) (hci : (pm_cl[ci]?).map (fun q => q.1) = some (pm_y mi2).cls) (hst0 : st = As.reverse ++ .ref r :: rest) (hW : (rest.map fun v => v.category).sum ≤ 8) (g1 : kc + (pm_rm mi2).cells ≤ kc2) (g2 : ks + (pm_rm mi2).slots ≤ ks2)
    (k : ∀ v μ', P2 v μ' → pm_V mi (P, X, sb_Tie b c5) kc2 ks2 (pc + 3) lo (v.toList ++ rest) μ') : pm_V mi (P, X, sb_Tie b c5) kc ks pc lo st μ := by
  intro p l e s m args below meth c D tc ad A hO H locs cells slots ls hc hs hP hD hS hlv
  obtain ⟨hx, hb, hml, hown, hts, hr, hlk, htr, hst, hA, htab, hz1, hz2⟩ := id hO
  have h5 : tc 5 = c5 := Option.some.inj ((sb_tc5 hst).symm.trans hz1)
  have hf2 := hf
  simp only [pm_fit, Bool.and_eq_true, decide_eq_true_eq] at hf2
  have hsub := pm_sub hD hS hA
  have hcb := pm_callB (mi := mi) (kc := kc) (ks := ks) hts hcal.1 hl hf
  have hrecv : ∃ cell : Cell, H[ad r]? = some cell ∧ cell.vm.isStatics = false ∧ s.vm.findClass (pm_y mi2).cls = some cell.cls := by
    cases hq : pm_cl[ci]? with
    | none => rw [hq] at hci; cases hci
    | some q =>
      rw [hq] at hci
      have h1 : q.1 = (pm_y mi2).cls := Option.some.inj hci
      rw [← h1]
      exact va_recv hst.1 hP hq (pm_ws_get hsh)
  have hrun := va_runV (Ts := pm_good) (own := pm_R (pm_id mi)) (C := (pm_y mi2).cls) (As := As.map (pm_rv ad)) (b := ad r) (rest := rest.map (pm_rv ad)) (g := F0 m pc ls (st.map (pm_rv ad))) (H := H) (locs := locs) (cells := cells) (slots := slots) (e := e) (below := below) (meth := meth) ⟨hx, hb, hml, hown, hts⟩ (hM D tc ad h5 hz2 l H.size htr) ⟨hcb, hts _ hcal.2.1, hts _ hcal.2.2⟩
    ⟨gm_Pc_blind, hrecv, fun U hU hW9 => ⟨rfl, by rw [hU], by rw [hU]; exact hP, hD.weaken (fun _ _ _ _ => trivial), hst.go hW9 hU hS hsub⟩⟩ rfl (by rw [List.length_map]; exact hn) hlv.1 (by rw [hst0, List.map_append, List.map_reverse]; rfl)
    (by rw [pm_cats]; simpa [JFrame.monitorRoom] using hW) hd ⟨Nat.le_trans (Nat.add_le_add_right hc _) hf2.2.2.1, Nat.le_trans (Nat.add_le_add_right hs _) hf2.2.2.2⟩
  intro T0 hT0 X0
  obtain ⟨v, st₀, t, T', L, h0, X', hL, e1, e2, ⟨⟨v', w1, hv1, ⟨v2, M, hv9, hp, hw9⟩, hP2, hD2⟩, hF⟩, stp⟩ := hrun T0 hT0 X0
  rw [hw9] at hP2 hD2
  rw [hv9] at hv1
  have hv2 : v = v2.map (pm_rv ad) := by injection hv1
  subst hv2
  obtain ⟨k1, k2, k3⟩ := vx_keep h0 e1 hS (fun q _ h => hsub q h) hsub hL hF
  obtain ⟨t2, a1, b1⟩ := k v2 M hp p l e s m args below meth c D tc ad A hO T'.heap (locs ++ L) _ _ ls (Nat.le_trans (Nat.add_le_add_right hc _) g1) (Nat.le_trans (Nat.add_le_add_right hs _) g2) (by rw [e1]; exact hP2) (hD2.weaken (fun _ _ _ h => hsub _ h)) k3 hlv T' rfl X'
  rw [← pm_stk] at a1
  exact ⟨t2, stp t2 a1, b1⟩
/-- a call that makes a builder -/
theorem sb_callB (mi2 : pm_Mi) {ix r ci n kc2 ks2 : Nat} {As rest : List Value} {fs : List (Option Nat)} {P2 : ClassId → Nat → pm_Mm → Prop} (hM : pm_CB mi2 (.ref r :: As) μ P2) (hcal : pm_CalV mi2 n) (hl : Cond.methodLink (pm_R (pm_id mi)) ix (pm_y mi2) ∈ pm_good) (hf : pm_fit mi mi2 kc ks = true)
    (hd : decode (pm_cc mi) pc = .ok (.invokevirtual ix, 3)) (hn : As.length = n) (hsh : pm_sh[r]? = some (.inr (ci, fs))) (hci : (pm_cl[ci]?).map (fun q => q.1) = some (pm_y mi2).cls) (hst0 : st = As.reverse ++ .ref r :: rest) (hW : (rest.map fun v => v.category).sum ≤ 8) (g1 : kc + (pm_rm mi2).cells ≤ kc2) (g2 : ks + (pm_rm mi2).slots ≤ ks2)
    (hlo : ∀ v, some v ∈ lo → v ≠ .ref 2000) (hre : ∀ v ∈ rest, v ≠ .ref 2000) (hT1 : ∀ v M, P v M → v ≠ some (.ref 2000)) {K : State → (Nat → Prop) → (Nat → Nat) → Prop}
    (k : ∀ b c5 M, P2 c5 b M → pm_V mi (P, X, sb_Tie b c5) kc2 ks2 (pc + 3) lo (.ref 2000 :: rest) M) : pm_V mi (P, X, K) kc ks pc lo st μ := by
  intro p l e s m args below meth c D tc ad A hO H locs cells slots ls hc hs hP hD hS hlv
  obtain ⟨hx, hb, hml, hown, hts, hr, hlk, htr, hst, hA, htab, hZ⟩ := id hO
  have hf2 := hf
  simp only [pm_fit, Bool.and_eq_true, decide_eq_true_eq] at hf2
  have hsub := pm_sub hD hS hA
  have hcb := pm_callB (mi := mi) (kc := kc) (ks := ks) hts hcal.1 hl hf
  have hrecv : ∃ cell : Cell, H[ad r]? = some cell ∧ cell.vm.isStatics = false ∧ s.vm.findClass (pm_y mi2).cls = some cell.cls := by
    cases hq : pm_cl[ci]? with
    | none => rw [hq] at hci; cases hci
    | some q =>
      rw [hq] at hci
      have h1 : q.1 = (pm_y mi2).cls := Option.some.inj hci
      rw [← h1]
      exact va_recv hst.1 hP hq (pm_ws_get hsh)
  have hrun := va_runV (Ts := pm_good) (own := pm_R (pm_id mi)) (C := (pm_y mi2).cls) (As := As.map (pm_rv ad)) (b := ad r) (rest := rest.map (pm_rv ad)) (g := F0 m pc ls (st.map (pm_rv ad))) (H := H) (locs := locs) (cells := cells) (slots := slots) (e := e) (below := below) (meth := meth) ⟨hx, hb, hml, hown, hts⟩ (hM D tc ad l H.size htr) ⟨hcb, hts _ hcal.2.1, hts _ hcal.2.2⟩
    ⟨gm_Pc_blind, hrecv, fun U hU hW9 => ⟨rfl, by rw [hU], by rw [hU]; exact hP, hD.weaken (fun _ _ _ _ => trivial), hst.go hW9 hU hS hsub⟩⟩ rfl (by rw [List.length_map]; exact hn) hlv.1 (by rw [hst0, List.map_append, List.map_reverse]; rfl)
    (by rw [pm_cats]; simpa [JFrame.monitorRoom] using hW) hd ⟨Nat.le_trans (Nat.add_le_add_right hc _) hf2.2.2.1, Nat.le_trans (Nat.add_le_add_right hs _) hf2.2.2.2⟩
  intro T0 hT0 X0
  obtain ⟨v, st₀, t, T', L, h0, X', hL, e1, e2, ⟨⟨v', w1, hv1, ⟨b, M, hv9, hp, hw9⟩, hP2, hD2⟩, hF⟩, stp⟩ := hrun T0 hT0 X0
  rw [hw9] at hP2 hD2
  rw [hv9] at hv1
  have hv2 : v = some (.ref b) := by injection hv1
  subst hv2
  obtain ⟨k1, k2, k3⟩ := vx_keep h0 e1 hS (fun q _ h => hsub q h) hsub hL hF
  have hlv2 : pm_LV (sb_ax ad b) ls (pm_nL mi) lo := ⟨hlv.1, hlv.2.1, fun i v hv => by rw [sb_rv_ax (hlo v (List.mem_of_getElem? hv))]; exact hlv.2.2 i v hv⟩
  obtain ⟨t2, a1, o, b1, b2, b3⟩ := k b (tc 5) M hp p l e s m args below meth c D tc (sb_ax ad b) A ⟨hx, hb, hml, hown, hts, hr, hlk, htr, hst, hA, htab, sb_tc5 hst, if_pos rfl⟩ T'.heap (locs ++ L) _ _ ls (Nat.le_trans (Nat.add_le_add_right hc _) g1) (Nat.le_trans (Nat.add_le_add_right hs _) g2) (by rw [e1, sb_ws_ax]; exact hP2) (by rw [sb_ws_ax]; exact hD2.weaken (fun _ _ _ h => hsub _ h)) k3 hlv2 T' rfl X'
  have hr9 : rest.map (pm_rv (sb_ax ad b)) = rest.map (pm_rv ad) := List.map_congr_left (fun v hv => sb_rv_ax (hre v hv))
  rw [List.map_cons, hr9, show pm_rv (sb_ax ad b) (.ref 2000) = .ref b from by show Value.ref (sb_ax ad b 2000) = _; rw [sb_ax, if_pos rfl]] at a1
  refine ⟨t2, stp t2 a1, o, b1, b2, ?_⟩
  rcases b3 with ⟨⟨⟨v, M9, q1, q2, q3, q4⟩, q5⟩, q6⟩ | ⟨q, q0, E, ce, L9, ⟨⟨M9, q1, q3, q4⟩, q5⟩, q6⟩
  · refine Or.inl ⟨⟨⟨v, M9, ?_, q2, by rw [sb_ws_ax] at q3; exact q3, by rw [sb_ws_ax] at q4; exact q4⟩, q5⟩, q6⟩
    rw [q1]
    cases v with
    | none => rfl
    | some u => show Outcome.returned (some (pm_rv (sb_ax ad b) u)) = Outcome.returned (some (pm_rv ad u)); rw [sb_rv_ax (fun e => hT1 _ _ q2 (by rw [e]))]
  · exact Or.inr ⟨q, q0, E, ce, L9, ⟨⟨M9, q1, by rw [sb_ws_ax] at q3; exact q3, by rw [sb_ws_ax] at q4; exact q4⟩, q5⟩, q6⟩
/-- the cells beside are forgotten -/
theorem sb_drop {E E' : va_W} (k : pm_V mi T kc ks pc lo st (sb_m μ E')) (hE : μ.2.2.2 = E ++ E') : pm_V mi T kc ks pc lo st μ := by
  intro p l e s m args below meth c D tc ad A hO H locs cells slots ls hc hs hP hD hS hlv
  have hw9 : pm_ws tc ad μ = pm_sh.mapIdx (fun i x => (ad i, pm_ce tc ad μ i x)) ++ (E ++ E') := by unfold pm_ws; rw [hE]
  rw [hw9] at hP hD
  have hp9 := List.perm_append_comm_assoc (pm_sh.mapIdx (fun i x => (ad i, pm_ce tc ad μ i x))) E E'
  exact k p l e s m args below meth c D tc ad A hO H locs cells slots ls hc hs (by rw [sb_ws_m]; exact gm_P_mem hP (fun q hq => hp9.mem_iff.mpr (List.mem_append_right _ hq))) (by rw [sb_ws_m]; exact gm_D_right (gm_D_perm hD hp9)) hS hlv
theorem pm_aret {r : Nat} {ty : FieldType} (hrt : pm_rt mi = some ty) (hn : (∃ n, ty = .object n) ∨ ∃ t, ty = .array t) (hkc : kc ≤ (pm_rm mi).cells) (hks : ks ≤ (pm_rm mi).slots) (hd : decode (pm_cc mi) pc = .ok (.areturn, 1)) (hq : T.1 (some (.ref r)) μ) : pm_V mi T kc ks pc lo [.ref r] μ := by
  intro p l e s m args below meth c D tc ad A hO H locs cells slots ls hc hs hP hD hS hlv
  obtain ⟨hx, hb, hml, hown, hts, hr, hlk, htr, hst, hA, htab, hZ⟩ := id hO
  refine W.widen (k := (pm_rm mi).cells) (n := (pm_rm mi).slots) (Nat.le_trans hc hkc) (Nat.le_trans hs hks) (vx_ret ?_)
  exact W.aret (v := .ref (ad r)) hx hb (hr.trans hrt) hn (Or.inr ⟨_, rfl⟩) (fun t ht _ => ⟨⟨some (.ref r), μ, rfl, hq, by rw [ht]; exact hP, hD⟩, hS.F ht⟩) hS.2.2 hd hlk
theorem pm_s_popr {x : Nat} (hd : decode (pm_cc mi) pc = .ok (.pop, 1)) (k : pm_V mi T kc ks (pc + 1) lo (st) μ) : pm_V mi T kc ks pc lo (.ref x :: st) μ := by
  intro p l e s m args below meth c D tc ad A hO H locs cells slots ls hc hs hP hD hS hlv
  obtain ⟨hx, hb, hml, hown, hts, hr, hlk, htr, hst, hA, htab, hZ⟩ := id hO
  exact lv_pop hx hb hd rfl (k p l e s m args below meth c D tc ad A hO H locs cells slots ls hc hs hP hD hS hlv)
/-- a number of a letter's row: aload_0, getfield, iload_n, iaload -/
theorem sb_num {ix fk r l kl : Nat} {j : Fin 4} {fs : List (Option Nat)} {x : Int32} (hl0 : lo[0]? = some (some (.ref 26))) (hlk : lo[kl]? = some (some (.int (nI l)))) (hj : (j : Nat) = kl) (hl30 : l < 30) (hf : pm_fl.any (fun q => q.1 == pm_id mi && q.2.1 == ix && q.2.2.1 == 4 && q.2.2.2.1 == fk) = true) (hs0 : pm_sh[26]? = some (.inr (4, fs))) (hk : fs[fk]? = some (some r)) (hs1 : pm_sh[r]? = some (.inl (0, 30))) (hx : μ.1 r l = x)
    (d0 : decode (pm_cc mi) pc = .ok (.aload_n 0, 1)) (d1 : decode (pm_cc mi) (pc + 1) = .ok (.getfield ix, 3)) (d2 : decode (pm_cc mi) (pc + 4) = .ok (.iload_n j, 1)) (d3 : decode (pm_cc mi) (pc + 5) = .ok (.iaload, 1)) (k : pm_V mi T kc ks (pc + 6) lo (.int x :: st) μ) : pm_V mi T kc ks pc lo st μ := by
  refine pm_s_aload_n d0 rfl hl0 (pm_s_getr hf hs0 hk d1 (pm_s_iload_n d2 hj hlk (pm_s_iald hs1 (vp_in_nI hl30 (by decide)) d3 ?_)))
  rw [nI_clamp (by omega), hx]
  exact k
/-- a sign is appended -/
theorem sb_putC {L : List Nat} {ix va m c kc2 ks2 : Nat} {a : Nat → Int32} {x : Int32} {rest : List Value} {wr : va_W} (hx : x = nI c) (hI : sb_I L m a) (hc : c < 256) (hl : L.length + 1 ≤ 34) (hE : μ.2.2.2 = sb_w (fun _ => c5) b va L.length m a ++ wr) (hl0 : Cond.methodLink (pm_R (pm_id mi)) ix yJ4_append_cf468 ∈ pm_good) (hf : pm_fit mi mi_J4_append_cf468 kc ks = true) (hd : decode (pm_cc mi) pc = .ok (.invokevirtual ix, 3)) (hW : (rest.map fun v => v.category).sum ≤ 8) (g1 : kc + 1 ≤ kc2) (g2 : ks + 34 ≤ ks2)
    (k : ∀ v2 m2 a2, sb_I (L ++ [c]) m2 a2 → pm_V mi (P, X, sb_Tie b c5) kc2 ks2 (pc + 3) lo (.ref 2000 :: rest) (sb_m μ (sb_w (fun _ => c5) b v2 (L ++ [c]).length m2 a2 ++ wr))) : pm_V mi (P, X, sb_Tie b c5) kc ks pc lo (.int x :: .ref 2000 :: rest) μ := by
  subst hx
  refine sb_call mi_J4_append_cf468 (ix := ix) (n := 1) (As := [.int (nI c)]) (rest := rest) (wr := wr) (P2 := fun r u => r = some (.ref b) ∧ ∃ v2 m2 a2, u = sb_w (fun _ => c5) b v2 (L ++ [c]).length m2 a2 ∧ sb_I (L ++ [c]) m2 a2) (some (.ref 2000)) (fun D tc h5 => by subst h5; exact c_J4_append_cf468 D tc b va m hI hc hl) hE cal_J4_append_cf468 (pm_tab (i := 982) (by decide +kernel) rfl) (pm_tab (i := 983) (by decide +kernel) rfl) hl0 hf hd rfl (fun _ => rfl) rfl rfl hW g1 g2 (fun v w1 h ad e => by rw [h.1, ← e]; rfl) ?_
  rintro v _ ⟨-, v2, m2, a2, rfl, h⟩
  exact k v2 m2 a2 h
/-- a number is appended -/
theorem sb_putI {L : List Nat} {ix va m c kc2 ks2 : Nat} {a : Nat → Int32} {x : Int32} {rest : List Value} {wr : va_W} (hx : x = nI c) (hI : sb_I L m a) (hc : c < 1000) (hl : L.length + (lr_dg c).length ≤ 34) (hE : μ.2.2.2 = sb_w (fun _ => c5) b va L.length m a ++ wr) (hl0 : Cond.methodLink (pm_R (pm_id mi)) ix yJ4_append_bf812 ∈ pm_good) (hf : pm_fit mi mi_J4_append_bf812 kc ks = true) (hd : decode (pm_cc mi) pc = .ok (.invokevirtual ix, 3)) (hW : (rest.map fun v => v.category).sum ≤ 8) (g1 : kc + 1 ≤ kc2) (g2 : ks + 34 ≤ ks2)
    (k : ∀ v2 m2 a2, sb_I (L ++ lr_dg c) m2 a2 → pm_V mi (P, X, sb_Tie b c5) kc2 ks2 (pc + 3) lo (.ref 2000 :: rest) (sb_m μ (sb_w (fun _ => c5) b v2 (L ++ lr_dg c).length m2 a2 ++ wr))) : pm_V mi (P, X, sb_Tie b c5) kc ks pc lo (.int x :: .ref 2000 :: rest) μ := by
  subst hx
  refine sb_call mi_J4_append_bf812 (ix := ix) (n := 1) (As := [.int (nI c)]) (rest := rest) (wr := wr) (P2 := fun r u => r = some (.ref b) ∧ ∃ v2 m2 a2, u = sb_w (fun _ => c5) b v2 (L ++ lr_dg c).length m2 a2 ∧ sb_I (L ++ lr_dg c) m2 a2) (some (.ref 2000)) (fun D tc h5 => by subst h5; exact c_J4_append_bf812 D tc b va m hI hc hl) hE cal_J4_append_bf812 (pm_tab (i := 1073) (by decide +kernel) rfl) (pm_tab (i := 1074) (by decide +kernel) rfl) hl0 hf hd rfl (fun _ => rfl) rfl rfl hW g1 g2 (fun v w1 h ad e => by rw [h.1, ← e]; rfl) ?_
  rintro v _ ⟨-, v2, m2, a2, rfl, h⟩
  exact k v2 m2 a2 h
end SBG
