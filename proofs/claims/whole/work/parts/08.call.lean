/-! contracts; how a body gives one; how a call uses one; ends -/
def pm_wsy (mi : pm_Mi) : List Cond := (if (pm_hh mi).isEmpty then Cond.code (pm_y mi) (pm_cc mi) (pm_nL mi) (pm_rt mi) else Cond.codeWith (pm_y mi) (pm_cc mi) (pm_nL mi) (pm_rt mi) (pm_hh mi)) :: pm_good
/-- from this memory, with these arguments, the method returns as P says, or throws as X says -/
def pm_CT (mi : pm_Mi) (av : List Value) (μ : pm_Mm) (P : Option Value → pm_Mm → Prop) (X : String → pm_Mm → Prop) : Prop :=
  ∀ (l : Launch) (D : va_G) (tc : Nat → ClassId) (ad : Nat → Nat) (sz : Nat), l.stackTraces = false →
    vx_Met l (pm_y mi) (pm_wsy mi) (pm_rm mi) (pm_Pc D tc ad sz (va_A (pm_ws tc ad μ) sz) av μ) (pm_Qc D tc ad (va_A (pm_ws tc ad μ) sz) P) (pm_XC D tc ad (va_A (pm_ws tc ad μ) sz) X) (pm_rm mi).cells (pm_rm mi).slots (va_A (pm_ws tc ad μ) sz)
abbrev pm_NX : String → pm_Mm → Prop := fun _ _ => False
theorem pm_St0.go {s U : State} {A A1 : Nat → Prop} {D : va_G} {tc : Nat → ClassId} {H : Heap} {locs : List Loc} (h : pm_St0 s A D tc) (hW : s.WarmedH U.vm) (hH : U.heap = H) (hS : va_S A s.heap H locs) (hA : ∀ q, A1 q → A q) : pm_St0 U A1 D tc := by
  obtain ⟨hK, hNw, hStr, hCs, hDc, hNc, hU, hN⟩ := h
  refine ⟨va_K.moved hW.alike hK, fun q hq => va_Nw.warmM hW (hNw q hq), fun q hq => ?_, fun q hq => va_Nw.warmC hW (hCs q hq), fun q hq => va_Nw.warmD hW (hDc q hq), fun q hq => va_Nc.moved hW.alike (hNc q hq), ?_, ?_⟩
  · obtain ⟨sa, h1⟩ := hStr q hq
    exact ⟨sa, vk_R.warm hW h1⟩
  · rw [hH]
    exact (vx_Zq.moved hW.alike (hU.kept hS.2.1)).narrow hA
  · rw [hH]
    exact ⟨(vx_Zq.moved hW.alike (hN.1.kept hS.2.1)).narrow hA, hN.2.go hW.alike hS.2.1 hA⟩
theorem pm_St0.blind {U : State} {A : Nat → Prop} {D : va_G} {tc : Nat → ClassId} (g : JFrame) (mk : MethodId) (a : Array Value) (h : pm_St0 U A D tc) : pm_St0 (U.calling g mk a) A D tc := by
  obtain ⟨hK, hNw, hStr, hCs, hDc, hNc, hU, hN⟩ := h
  exact ⟨va_K.moved (u := U) (U := U.calling g mk a) (Vm.Alike.refl U.vm) hK, fun q hq => va_Nw.same rfl rfl (hNw q hq), fun q hq => by
    obtain ⟨sa, h1⟩ := hStr q hq
    exact ⟨sa, vk_R.same (u := U) rfl h1⟩, fun q hq => va_Nw.same rfl rfl (hCs q hq), fun q hq => va_Nw.same rfl rfl (hDc q hq), fun q hq => va_Nc.moved (u := U) (U := U.calling g mk a) (Vm.Alike.refl U.vm) (hNc q hq), vx_Zq.moved (u := U) (U := U.calling g mk a) (Vm.Alike.refl U.vm) hU, ⟨vx_Zq.moved (u := U) (U := U.calling g mk a) (Vm.Alike.refl U.vm) hN.1, hN.2.go (u := U) (U := U.calling g mk a) (Vm.Alike.refl U.vm) (fun _ _ _ => rfl) (fun _ h => h)⟩⟩
theorem pm_Pc_blind {D : va_G} {tc : Nat → ClassId} {ad : Nat → Nat} {sz : Nat} {A : Nat → Prop} {av : List Value} {μ : pm_Mm} : FrameBlind (pm_Pc D tc ad sz A av μ) := by
  intro a U g mk h
  obtain ⟨h1, h2, h3, h4, h5⟩ := h
  exact ⟨h1, h2, h3, h4, h5.blind g mk a⟩
theorem pm_args_mem : ∀ (vs : List Value) (k : Nat), (∀ v ∈ vs, v.category = 1) → ∀ (i : Nat) (v : Value), vs[i]? = some v → (k + i, v) ∈ lv_args k vs
  | [], _, _, i, v, h => by simp at h
  | u :: vs, k, hc, i, v, h => by
    have hu : ¬ u.category = 2 := by rw [hc u List.mem_cons_self]; decide
    show _ ∈ (k, u) :: lv_args (if u.category = 2 then k + 2 else k + 1) vs
    rw [if_neg hu]
    cases i with
    | zero =>
      have h1 : u = v := by simpa using h
      subst h1
      exact List.mem_cons_self
    | succ i =>
      refine List.mem_cons_of_mem _ ?_
      have h1 := pm_args_mem vs (k + 1) (fun v hv => hc v (List.mem_cons_of_mem _ hv)) i v (by simpa using h)
      rw [show k + (i + 1) = k + 1 + i by omega]
      exact h1
theorem pm_LV_entry {ad : Nat → Nat} {av : List Value} {nL : Nat} {lo : List (Option Value)} (h1 : ∀ v ∈ av, v.category = 1) (hl : av.length ≤ nL) (hlo : lo = av.map some ++ List.replicate (nL - av.length) none) :
    pm_LV ad ((lg_sl (av.map (pm_rv ad)) ++ List.replicate (nL - (lg_sl (av.map (pm_rv ad))).length) Slot.unset).toArray) nL lo := by
  have hc : ∀ v ∈ av.map (pm_rv ad), v.category = 1 := by
    intro v hv
    obtain ⟨u, hu, rfl⟩ := List.mem_map.mp hv
    rw [pm_rv_cat]
    exact h1 u hu
  have hlen : (lg_sl (av.map (pm_rv ad))).length = av.length := by
    have : ∀ vs : List Value, (∀ v ∈ vs, v.category = 1) → (lg_sl vs).length = vs.length := by
      intro vs
      induction vs with
      | nil => intro _; rfl
      | cons u vs ih =>
        intro h
        have hu : ¬ u.category = 2 := by rw [h u List.mem_cons_self]; decide
        have := ih (fun v hv => h v (List.mem_cons_of_mem _ hv))
        simp only [lg_sl, List.flatMap_cons, if_neg hu, List.length_append, List.length_cons, List.length_nil] at this ⊢
        omega
    rw [this _ hc, List.length_map]
  obtain ⟨g1, g2, g3⟩ := lv_entry (av.map (pm_rv ad)) (n := nL) (by rw [hlen]; exact hl)
  refine ⟨g1, g2, fun i v hv => ?_⟩
  subst hlo
  have hi : av[i]? = some v := by
    by_cases hi : i < av.length
    · rw [List.getElem?_append_left (by simpa using hi)] at hv
      rw [List.getElem?_map] at hv
      cases ha : av[i]? with
      | none => rw [ha] at hv; cases hv
      | some u => rw [ha] at hv; exact Option.some.inj hv
    · rw [List.getElem?_append_right (by simpa using hi), List.getElem?_replicate] at hv
      split at hv <;> cases hv
  have h9 := pm_args_mem (av.map (pm_rv ad)) 0 hc i (pm_rv ad v) (by rw [List.getElem?_map, hi]; rfl)
  rw [Nat.zero_add] at h9
  exact g3 _ h9
theorem pm_CT_of {mi : pm_Mi} {av : List Value} {μ : pm_Mm} {P : Option Value → pm_Mm → Prop} {X : String → pm_Mm → Prop} {lo : List (Option Value)} (hy : plainName (pm_y mi).cls = true) (hcls : (pm_y mi).cls = pm_R (pm_id mi)) (hh : pm_hh mi = []) (h1 : ∀ v ∈ av, v.category = 1) (hl : av.length ≤ pm_nL mi) (hlo : lo = av.map some ++ List.replicate (pm_nL mi - av.length) none)
    (k : pm_V mi (P, X, fun _ _ _ => True) 0 0 0 lo [] μ) : pm_CT mi av μ P X := by
  intro l D tc ad sz htr
  refine vx_ofW (cc := pm_cc mi) (maxL := pm_nL mi) (ret := pm_rt mi) (ws' := pm_good) hy (by unfold pm_wsy; rw [hh]; rfl) ?_
  intro p e s m args below meth c s₁ B hml htb hv
  obtain ⟨rfl, hsz, hP, hD0, hst⟩ := hv
  subst hsz
  have hts : ∀ w ∈ pm_good, w.before ((av.map (pm_rv ad)).toArray) s = true := fun w hw => atoms_spec (ws := pm_wsy mi) B.pre w (by unfold pm_wsy; exact List.mem_cons_of_mem _ hw)
  have hown : s.vm.findClass (pm_R (pm_id mi)) = some m.cls := by rw [← hcls]; exact findClass_of_methodNamed B.named
  have htab : c.exceptionTable.toList = tableOf (pm_hh mi) := by
    rw [hh]
    cases h9 : c.exceptionTable.toList with
    | nil => rfl
    | cons x xs => exact (htb x (by rw [h9]; exact List.mem_cons_self)).elim
  rw [lg_entry_eq]
  exact k p l e s m _ below meth c D tc ad (va_A (pm_ws tc ad μ) s.heap.size) ⟨B.exec, B.bytes, hml, hown, hts, B.returns, B.notSynchronized, htr, hst, fun q h => Or.inr h, htab, trivial⟩ s.heap [] 0 0 _ (Nat.le_refl _) (Nat.le_refl _) hP hD0.self va_S.rf (pm_LV_entry h1 hl hlo)
section PMC
variable {mi : pm_Mi} {T : pm_Tg} {kc ks pc : Nat} {lo : List (Option Value)} {st : List Value} {μ : pm_Mm}
theorem pm_iret {v : Int32} {ty : FieldType} (hrt : pm_rt mi = some ty) (hn : narrow ty (.int v) = .int v) (hkc : kc ≤ (pm_rm mi).cells) (hks : ks ≤ (pm_rm mi).slots) (hd : decode (pm_cc mi) pc = .ok (.ireturn, 1)) (hq : T.1 (some (.int v)) μ) : pm_V mi T kc ks pc lo [.int v] μ := by
  intro p l e s m args below meth c D tc ad A hO H locs cells slots ls hc hs hP hD hS hlv
  obtain ⟨hx, hb, hml, hown, hts, hr, hlk, htr, hst, hA, htab, hZ⟩ := id hO
  obtain ⟨hK, hNw, hStr, hCs, hDc, hNc, hU, hN⟩ := id hst
  refine W.widen (k := (pm_rm mi).cells) (n := (pm_rm mi).slots) (Nat.le_trans hc hkc) (Nat.le_trans hs hks) (vx_ret ?_)
  exact W.zret (v := v) hx hb (hr.trans hrt) hn (fun t ht _ => ⟨⟨some (.int v), μ, rfl, hq, by rw [ht]; exact hP, hD⟩, hS.F ht⟩) hS.2.2 hd hlk
theorem pm_vret (hrt : pm_rt mi = none) (hkc : kc ≤ (pm_rm mi).cells) (hks : ks ≤ (pm_rm mi).slots) (hd : decode (pm_cc mi) pc = .ok (.return_, 1)) (hq : T.1 none μ) : pm_V mi T kc ks pc lo [] μ := by
  intro p l e s m args below meth c D tc ad A hO H locs cells slots ls hc hs hP hD hS hlv
  obtain ⟨hx, hb, hml, hown, hts, hr, hlk, htr, hst, hA, htab, hZ⟩ := id hO
  obtain ⟨hK, hNw, hStr, hCs, hDc, hNc, hU, hN⟩ := id hst
  refine W.widen (k := (pm_rm mi).cells) (n := (pm_rm mi).slots) (Nat.le_trans hc hkc) (Nat.le_trans hs hks) (vx_ret ?_)
  exact W.vret hx hb (hr.trans hrt) (fun t ht _ => ⟨⟨none, μ, rfl, hq, by rw [ht]; exact hP, hD⟩, hS.F ht⟩) hS.2.2 hd hlk
theorem pm_dret {v : UInt64} (hrt : pm_rt mi = some .double) (hkc : kc ≤ (pm_rm mi).cells) (hks : ks ≤ (pm_rm mi).slots) (hd : decode (pm_cc mi) pc = .ok (.dreturn, 1)) (hq : T.1 (some (.double v)) μ) : pm_V mi T kc ks pc lo [.double v] μ := by
  intro p l e s m args below meth c D tc ad A hO H locs cells slots ls hc hs hP hD hS hlv
  obtain ⟨hx, hb, hml, hown, hts, hr, hlk, htr, hst, hA, htab, hZ⟩ := id hO
  obtain ⟨hK, hNw, hStr, hCs, hDc, hNc, hU, hN⟩ := id hst
  refine W.widen (k := (pm_rm mi).cells) (n := (pm_rm mi).slots) (Nat.le_trans hc hkc) (Nat.le_trans hs hks) (vx_ret ?_)
  exact W.dret (v := v) hx hb (hr.trans hrt) (fun t ht _ => ⟨⟨some (.double v), μ, rfl, hq, by rw [ht]; exact hP, hD⟩, hS.F ht⟩) hS.2.2 hd hlk
/-- what a callee's tables say -/
def pm_Cal (mi : pm_Mi) (n : Nat) : Prop := Cond.code (pm_y mi) (pm_cc mi) (pm_nL mi) (pm_rt mi) ∈ pm_good ∧ Cond.initialized (pm_y mi).cls ∈ pm_good ∧ pm_hh mi = [] ∧ ((pm_y mi).cls ≠ "java/lang/invoke/MethodHandle" ∧ (pm_y mi).cls ≠ "java/lang/invoke/VarHandle" ∧ (parseMethodDescriptor (pm_y mi).desc).map (fun d => d.parameters.length) = some n)
def pm_CalV (mi : pm_Mi) (n : Nat) : Prop := pm_Cal mi n ∧ Cond.instanceMethod (pm_y mi) ∈ pm_good ∧ Cond.selects (pm_y mi).cls (pm_y mi) (pm_y mi) ∈ pm_good
def pm_CalS (mi : pm_Mi) (n : Nat) : Prop := pm_Cal mi n ∧ Cond.static (pm_y mi) ∈ pm_good
/-- the callee's room is in the caller's -/
def pm_fit (mi mi2 : pm_Mi) (kc ks : Nat) : Bool := decide ((pm_rm mi2).frames + 1 ≤ (pm_rm mi).frames) && (decide (8 + (pm_nL mi2 + 11) + (pm_rm mi2).locals ≤ (pm_rm mi).locals) && (decide (kc + (pm_rm mi2).cells ≤ (pm_rm mi).cells) && decide (ks + (pm_rm mi2).slots ≤ (pm_rm mi).slots)))
theorem pm_wsy_good {mi : pm_Mi} {n : Nat} (h : pm_Cal mi n) : GoodIn pm_good (pm_wsy mi) := by
  intro w hw
  unfold pm_wsy at hw
  rw [h.2.2.1] at hw
  rcases List.mem_cons.mp hw with rfl | hw
  · exact pm_good_self _ h.1
  · exact pm_good_self _ hw
theorem pm_callB {mi2 : pm_Mi} {ix n : Nat} {s : State} {args : Array Value} (hts : ∀ w ∈ pm_good, w.before args s = true) (hcal : pm_Cal mi2 n) (hl : Cond.methodLink (pm_R (pm_id mi)) ix (pm_y mi2) ∈ pm_good) (hf : pm_fit mi mi2 kc ks = true) :
    CallB (pm_rm mi) s args (pm_R (pm_id mi)) ix (pm_y mi2) (pm_cc mi2) (pm_nL mi2) (pm_rt mi2) (pm_wsy mi2) (pm_rm mi2) (pm_rm mi2).cells (pm_rm mi2).slots n := by
  simp only [pm_fit, Bool.and_eq_true, decide_eq_true_eq] at hf
  exact callB_of (Ts := pm_good) (ws' := pm_good) n hts (pm_wsy_good hcal) (by unfold pm_wsy; rw [hcal.2.2.1]; rfl) rfl rfl (hts _ hcal.2.1) (hts _ hl) hcal.2.2.2 ⟨hf.1, hf.2.1⟩
theorem pm_stk {ad : Nat → Nat} (v : Option Value) (rest : List Value) : (v.map (pm_rv ad)).toList ++ rest.map (pm_rv ad) = (v.toList ++ rest).map (pm_rv ad) := by cases v <;> rfl
theorem pm_cats {ad : Nat → Nat} (rest : List Value) : ((rest.map (pm_rv ad)).map fun v => v.category).sum = (rest.map fun v => v.category).sum := by
  rw [List.map_map]
  congr 1
  exact List.map_congr_left (fun v _ => pm_rv_cat ad v)
theorem pm_sub {tc : Nat → ClassId} {ad : Nat → Nat} {μ : pm_Mm} {A : Nat → Prop} {H0 H : Heap} {locs : List Loc} (hD : va_D A (pm_ws tc ad μ)) (hS : va_S A H0 H locs) (hA : ∀ q, H0.size ≤ q → A q) : ∀ q, va_A (pm_ws tc ad μ) H.size q → A q := by
  intro q h
  rcases h with ⟨k, e, h⟩ | h
  · exact hD.2 k (q, e) h
  · exact hA q (Nat.le_trans hS.1 h)
/-- an instance method, as its contract says -/
theorem pm_callV (mi2 : pm_Mi) {ix b ci n : Nat} {As rest : List Value} {fs : List (Option Nat)} {P2 : Option Value → pm_Mm → Prop} {X2 : String → pm_Mm → Prop} (hM : pm_CT mi2 (.ref b :: As) μ P2 X2) (hcal : pm_CalV mi2 n) (hl : Cond.methodLink (pm_R (pm_id mi)) ix (pm_y mi2) ∈ pm_good) (hf : pm_fit mi mi2 kc ks = true) (hh : pm_hh mi = [])
    (hd : decode (pm_cc mi) pc = .ok (.invokevirtual ix, 3)) (hn : As.length = n) (hsh : pm_sh[b]? = some (.inr (ci, fs))) (hci : (pm_cl[ci]?).map (fun q => q.1) = some (pm_y mi2).cls) (hst0 : st = As.reverse ++ .ref b :: rest) (hW : (rest.map fun v => v.category).sum ≤ 8)
    (kx : ∀ E μ', X2 E μ' → T.2.1 E μ') (k : ∀ v μ', P2 v μ' → pm_V mi T (kc + (pm_rm mi2).cells) (ks + (pm_rm mi2).slots) (pc + 3) lo (v.toList ++ rest) μ') : pm_V mi T kc ks pc lo st μ := by
  intro p l e s m args below meth c D tc ad A hO H locs cells slots ls hc hs hP hD hS hlv
  obtain ⟨hx, hb, hml, hown, hts, hr, hlk, htr, hst, hA, htab, hZ⟩ := id hO
  obtain ⟨hK, hNw, hStr, hCs, hDc, hNc, hU, hN⟩ := id hst
  have hf2 := hf
  simp only [pm_fit, Bool.and_eq_true, decide_eq_true_eq] at hf2
  have hsub := pm_sub hD hS hA
  have hcb := pm_callB (mi := mi) (kc := kc) (ks := ks) hts hcal.1 hl hf
  have hrecv : ∃ cell : Cell, H[ad b]? = some cell ∧ cell.vm.isStatics = false ∧ s.vm.findClass (pm_y mi2).cls = some cell.cls := by
    cases hq : pm_cl[ci]? with
    | none => rw [hq] at hci; cases hci
    | some q =>
      rw [hq] at hci
      have h1 : q.1 = (pm_y mi2).cls := Option.some.inj hci
      rw [← h1]
      exact va_recv hK hP hq (pm_ws_get hsh)
  have hrun := vx_runV (Ts := pm_good) (own := pm_R (pm_id mi)) (C := (pm_y mi2).cls) (As := As.map (pm_rv ad)) (b := ad b) (rest := rest.map (pm_rv ad)) (g := F0 m pc ls (st.map (pm_rv ad))) (H := H) (locs := locs) (cells := cells) (slots := slots) (e := e) (below := below) (meth := meth) ⟨hx, hb, hml, hown, hts⟩ (hM l D tc ad H.size htr) ⟨hcb, hts _ hcal.2.1, hts _ hcal.2.2⟩
    ⟨pm_Pc_blind, hrecv, fun U hU hW => ⟨rfl, by rw [hU], by rw [hU]; exact hP, hD.weaken (fun _ _ _ _ => trivial), hst.go hW hU hS hsub⟩⟩ rfl (by rw [List.length_map]; exact hn) hlv.1 (by rw [hst0, List.map_append, List.map_reverse]; rfl)
    (by rw [pm_cats]; simpa [JFrame.monitorRoom] using hW) hd ⟨Nat.le_trans (Nat.add_le_add_right hc _) hf2.2.2.1, Nat.le_trans (Nat.add_le_add_right hs _) hf2.2.2.2⟩
  intro T0 hT0 X0
  rcases hrun T0 hT0 X0 with ⟨v, st₀, t, T', L, h0, X', hL, e1, e2, ⟨⟨v', μ', hv, hp, hP2, hD2⟩, hF⟩, stp⟩ | ⟨q, st₀, t, T', L, E, ce, h0, X', hL, e1, e2, ⟨⟨μ', hp, hP2, hD2⟩, hF⟩, hce, hcv, hcl, stp⟩
  · have hv2 : v = v'.map (pm_rv ad) := by injection hv
    subst hv2
    obtain ⟨k1, k2, k3⟩ := vx_keep h0 e1 hS (fun q _ h => hsub q h) hsub hL hF
    obtain ⟨t2, a1, b1⟩ := k v' μ' hp p l e s m args below meth c D tc ad A hO T'.heap (locs ++ L) _ _ ls (Nat.add_le_add_right hc _) (Nat.add_le_add_right hs _) (by rw [e1]; exact hP2) (hD2.weaken (fun _ _ _ h => hsub _ h)) k3 hlv T' rfl X'
    rw [← pm_stk] at a1
    exact ⟨t2, stp t2 a1, b1⟩
  · obtain ⟨k1, k2, k3⟩ := vx_keep h0 e1 hS (fun q _ h => hsub q h) hsub hL hF
    obtain ⟨t2, a1, b1⟩ := vx_out (p := p) (l := l) (e := e) (R := pm_rm mi) (s := s) (m := m) (args := args) (below := below) (meth := meth) (c := c) (H := T'.heap) (locs := locs ++ L) (ls := ls) (rest := rest.map (pm_rv ad)) (pc := pc) (free := A) (Qc := pm_Qc D tc ad A T.1) (XC := pm_XC D tc ad A T.2.1) (mc := (pm_rm mi).cells) (ms := (pm_rm mi).slots) (by rw [htab, hh]; intro x hx; cases hx) hlk (by rw [e1]; exact hce) hcv hcl (fun t3 ht3 _ => ⟨⟨μ', kx E μ' hp, by rw [ht3, e1]; exact hP2, hD2.weaken (fun _ _ _ h => hsub _ h)⟩, k3.F ht3⟩) k3.2.2 (Nat.le_trans (Nat.add_le_add_right hc _) hf2.2.2.1) (Nat.le_trans (Nat.add_le_add_right hs _) hf2.2.2.2) T' rfl X'
    exact ⟨t2, stp.trans a1, b1⟩
theorem pm_callS (mi2 : pm_Mi) {ix n : Nat} {As rest : List Value} {P2 : Option Value → pm_Mm → Prop} {X2 : String → pm_Mm → Prop} (hM : pm_CT mi2 As μ P2 X2) (hcal : pm_CalS mi2 n) (hl : Cond.methodLink (pm_R (pm_id mi)) ix (pm_y mi2) ∈ pm_good) (hf : pm_fit mi mi2 kc ks = true) (hh : pm_hh mi = [])
    (hd : decode (pm_cc mi) pc = .ok (.invokestatic ix, 3)) (hn : As.length = n) (hst0 : st = As.reverse ++ rest) (hW : (rest.map fun v => v.category).sum ≤ 8)
    (kx : ∀ E μ', X2 E μ' → T.2.1 E μ') (k : ∀ v μ', P2 v μ' → pm_V mi T (kc + (pm_rm mi2).cells) (ks + (pm_rm mi2).slots) (pc + 3) lo (v.toList ++ rest) μ') : pm_V mi T kc ks pc lo st μ := by
  intro p l e s m args below meth c D tc ad A hO H locs cells slots ls hc hs hP hD hS hlv
  obtain ⟨hx, hb, hml, hown, hts, hr, hlk, htr, hst, hA, htab, hZ⟩ := id hO
  obtain ⟨hK, hNw, hStr, hCs, hDc, hNc, hU, hN⟩ := id hst
  have hf2 := hf
  simp only [pm_fit, Bool.and_eq_true, decide_eq_true_eq] at hf2
  have hsub := pm_sub hD hS hA
  have hcb := pm_callB (mi := mi) (kc := kc) (ks := ks) hts hcal.1 hl hf
  have hrun := vx_runS (Ts := pm_good) (own := pm_R (pm_id mi)) (As := As.map (pm_rv ad)) (rest := rest.map (pm_rv ad)) (g := F0 m pc ls (st.map (pm_rv ad))) (H := H) (locs := locs) (cells := cells) (slots := slots) (e := e) (below := below) (meth := meth) ⟨hx, hb, hml, hown, hts⟩ (hM l D tc ad H.size htr) ⟨hcb, hts _ hcal.2⟩
    ⟨pm_Pc_blind, fun U hU hW => ⟨rfl, by rw [hU], by rw [hU]; exact hP, hD.weaken (fun _ _ _ _ => trivial), hst.go hW hU hS hsub⟩⟩ rfl (by rw [List.length_map]; exact hn) hlv.1 (by rw [hst0, List.map_append, List.map_reverse])
    (by rw [pm_cats]; simpa [JFrame.monitorRoom] using hW) hd ⟨Nat.le_trans (Nat.add_le_add_right hc _) hf2.2.2.1, Nat.le_trans (Nat.add_le_add_right hs _) hf2.2.2.2⟩
  intro T0 hT0 X0
  rcases hrun T0 hT0 X0 with ⟨v, st₀, t, T', L, h0, X', hL, e1, e2, ⟨⟨v', μ', hv, hp, hP2, hD2⟩, hF⟩, stp⟩ | ⟨q, st₀, t, T', L, E, ce, h0, X', hL, e1, e2, ⟨⟨μ', hp, hP2, hD2⟩, hF⟩, hce, hcv, hcl, stp⟩
  · have hv2 : v = v'.map (pm_rv ad) := by injection hv
    subst hv2
    obtain ⟨k1, k2, k3⟩ := vx_keep h0 e1 hS (fun q _ h => hsub q h) hsub hL hF
    obtain ⟨t2, a1, b1⟩ := k v' μ' hp p l e s m args below meth c D tc ad A hO T'.heap (locs ++ L) _ _ ls (Nat.add_le_add_right hc _) (Nat.add_le_add_right hs _) (by rw [e1]; exact hP2) (hD2.weaken (fun _ _ _ h => hsub _ h)) k3 hlv T' rfl X'
    rw [← pm_stk] at a1
    exact ⟨t2, stp t2 a1, b1⟩
  · obtain ⟨k1, k2, k3⟩ := vx_keep h0 e1 hS (fun q _ h => hsub q h) hsub hL hF
    obtain ⟨t2, a1, b1⟩ := vx_out (p := p) (l := l) (e := e) (R := pm_rm mi) (s := s) (m := m) (args := args) (below := below) (meth := meth) (c := c) (H := T'.heap) (locs := locs ++ L) (ls := ls) (rest := rest.map (pm_rv ad)) (pc := pc) (free := A) (Qc := pm_Qc D tc ad A T.1) (XC := pm_XC D tc ad A T.2.1) (mc := (pm_rm mi).cells) (ms := (pm_rm mi).slots) (by rw [htab, hh]; intro x hx; cases hx) hlk (by rw [e1]; exact hce) hcv hcl (fun t3 ht3 _ => ⟨⟨μ', kx E μ' hp, by rw [ht3, e1]; exact hP2, hD2.weaken (fun _ _ _ h => hsub _ h)⟩, k3.F ht3⟩) k3.2.2 (Nat.le_trans (Nat.add_le_add_right hc _) hf2.2.2.1) (Nat.le_trans (Nat.add_le_add_right hs _) hf2.2.2.2) T' rfl X'
    exact ⟨t2, stp.trans a1, b1⟩
/-- a contract that never throws is one of the plain kind -/
theorem pm_CT.met {mi : pm_Mi} {av : List Value} {μ : pm_Mm} {P : Option Value → pm_Mm → Prop} (h : pm_CT mi av μ P pm_NX) (l : Launch) (D : va_G) (tc : Nat → ClassId) (ad : Nat → Nat) (sz : Nat) (htr : l.stackTraces = false) :
    Met l (pm_y mi) (pm_wsy mi) (pm_rm mi) (pm_Pc D tc ad sz (va_A (pm_ws tc ad μ) sz) av μ) (pm_Qc D tc ad (va_A (pm_ws tc ad μ) sz) P) (pm_rm mi).cells (pm_rm mi).slots (va_A (pm_ws tc ad μ) sz) := by
  have h1 := h l D tc ad sz htr
  unfold Met
  unfold vx_Met at h1
  intro p e ha hcl hk s m args below hf hap hP hK
  obtain ⟨k, o, h2, h3, h4, h5⟩ := h1 p e ha hcl hk s m args below hf hap hP hK
  refine ⟨k, o, h2, h3, h4, ?_⟩
  rcases h5 with h5 | ⟨q, -, E, ce, L, hX, -⟩
  · exact h5
  · obtain ⟨⟨μ', hf9, -⟩, -⟩ := hX
    exact hf9.elim
/-- a private static of a nest mate -/
theorem pm_callSN (mi2 : pm_Mi) {ix n : Nat} {host : String} {As rest : List Value} {P2 : Option Value → pm_Mm → Prop} (hM : pm_CT mi2 As μ P2 pm_NX) (hcal : pm_CalS mi2 n) (hl : (pm_R (pm_id mi), ix, pm_y mi2, host) ∈ pm_nwl) (hf : pm_fit mi mi2 kc ks = true)
    (hd : decode (pm_cc mi) pc = .ok (.invokestatic ix, 3)) (hn : As.length = n) (hst0 : st = As.reverse ++ rest) (hW : (rest.map fun v => v.category).sum ≤ 8)
    (k : ∀ v μ', P2 v μ' → pm_V mi T (kc + (pm_rm mi2).cells) (ks + (pm_rm mi2).slots) (pc + 3) lo (v.toList ++ rest) μ') : pm_V mi T kc ks pc lo st μ := by
  intro p l e s m args below meth c D tc ad A hO H locs cells slots ls hc hs hP hD hS hlv
  obtain ⟨hx, hb, hml, hown, hts, hr, hlk, htr, hst, hA, htab, hZ⟩ := id hO
  obtain ⟨hK, hNw, hStr, hCs, hDc, hNc, hU, hN⟩ := id hst
  have hf2 := hf
  simp only [pm_fit, Bool.and_eq_true, decide_eq_true_eq] at hf2
  have hsub := pm_sub hD hS hA
  have hcn : va_CN (pm_rm mi) s args (pm_R (pm_id mi)) ix (pm_y mi2) host (pm_cc mi2) (pm_nL mi2) (pm_rt mi2) (pm_wsy mi2) (pm_rm mi2) (pm_rm mi2).cells (pm_rm mi2).slots n :=
    va_cnB (Ts := pm_good) (ws' := pm_good) n hts (pm_wsy_good hcal.1) (by unfold pm_wsy; rw [hcal.1.2.2.1]; rfl) rfl rfl (hNw _ hl) (hts _ hcal.1.2.1) hcal.1.2.2.2 ⟨hf2.1, hf2.2.1⟩
  have hrun := va_runSN (Ts := pm_good) (own := pm_R (pm_id mi)) (As := As.map (pm_rv ad)) (rest := rest.map (pm_rv ad)) (g := F0 m pc ls (st.map (pm_rv ad))) (H := H) (locs := locs) (cells := cells) (slots := slots) (e := e) (below := below) (meth := meth) ⟨hx, hb, hml, hown, hts⟩ (hM.met l D tc ad H.size htr) ⟨hcn, hts _ hcal.2, trivial⟩
    ⟨pm_Pc_blind, fun U hU hW => ⟨rfl, by rw [hU], by rw [hU]; exact hP, hD.weaken (fun _ _ _ _ => trivial), hst.go hW hU hS hsub⟩⟩ rfl (by rw [List.length_map]; exact hn) hlv.1 (by rw [hst0, List.map_append, List.map_reverse])
    (by rw [pm_cats]; simpa [JFrame.monitorRoom] using hW) hd ⟨Nat.le_trans (Nat.add_le_add_right hc _) hf2.2.2.1, Nat.le_trans (Nat.add_le_add_right hs _) hf2.2.2.2⟩
  intro T0 hT0 X0
  obtain ⟨v, st₀, t, T', L, h0, X', hL, e1, e2, ⟨⟨v', μ', hv, hp, hP2, hD2⟩, hF⟩, stp⟩ := hrun T0 hT0 X0
  have hv2 : v = v'.map (pm_rv ad) := by injection hv
  subst hv2
  obtain ⟨k1, k2, k3⟩ := vx_keep h0 e1 hS (fun q _ h => hsub q h) hsub hL hF
  obtain ⟨t2, a1, b1⟩ := k v' μ' hp p l e s m args below meth c D tc ad A hO T'.heap (locs ++ L) _ _ ls (Nat.add_le_add_right hc _) (Nat.add_le_add_right hs _) (by rw [e1]; exact hP2) (hD2.weaken (fun _ _ _ h => hsub _ h)) k3 hlv T' rfl X'
  rw [← pm_stk] at a1
  exact ⟨t2, stp t2 a1, b1⟩
end PMC
