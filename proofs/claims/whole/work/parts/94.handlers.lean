/-! a call whose throw is caught; a body with handlers -/
/-- as pm_V, a caught exception on the stack -/
def pm_VQ (mi : pm_Mi) (T : pm_Tg) (kc ks : Nat) (pc : Nat) (lo : List (Option Value)) (μ : pm_Mm) : Prop :=
  ∀ (p : Program) (l : Launch) (e : Env) (s : State) (m : MethodId) (args : Array Value) (below : List Frame) (meth : Method) (c : Code) (D : va_G) (tc : Nat → ClassId) (ad : Nat → Nat) (A : Nat → Prop),
    pm_Ok mi T p l s m args meth c D tc ad A → ∀ (H : Heap) (locs : List Loc) (cells slots : Nat) (ls : Array Slot), cells ≤ kc → slots ≤ ks →
      va_P D pm_cl (pm_ws tc ad μ) H → va_D A (pm_ws tc ad μ) → va_S A s.heap H locs → pm_LV ad ls (pm_nL mi) lo → ∀ q : Nat,
      W p l e (pm_rm mi) s m args below meth c H locs cells slots (vx_MQ below (pm_Qc D tc ad A T.1) (pm_XC D tc ad A T.2.1) args s (pm_rm mi).cells (pm_rm mi).slots A) (F0 m pc ls [.ref q])
/-- the handler of mi that catches E at pc -/
def pm_hd (mi : pm_Mi) (pc : Nat) (E : String) (hp : Nat) : Prop := ∃ (pre : List (Nat × Nat × Nat × Nat)) (x : Nat × Nat × Nat × Nat) (suf : List (Nat × Nat × Nat × Nat)) (name : String), pm_hh mi = pre ++ x :: suf ∧ (∀ z ∈ pre, z.2.2.2 ≠ 0 ∧ ∃ nm, Cond.classLink (pm_R (pm_id mi)) z.2.2.2 nm ∈ pm_good ∧ (E, nm) ∈ pm_ncl) ∧ (x.1 ≤ pc ∧ pc < x.2.1) ∧ x.2.2.2 ≠ 0 ∧ Cond.classLink (pm_R (pm_id mi)) x.2.2.2 name ∈ pm_good ∧ (E, name) ∈ pm_csl ∧ x.2.2.1 = hp
theorem pm_LV.stoN {ad : Nat → Nat} {ls : Array Slot} {nL i : Nat} {lo : List (Option Value)} {x : Value} (hc : pm_c1 lo i = true) (hi : i < lo.length) (h : lv_has ls nL ((i, x) :: (pm_as ad lo).filter (fun q => !(q.1 == i) && !(q.1 + 1 == i && q.2.category == 2)))) : pm_LV ad ls nL (lo.set i none) := by
  refine ⟨h.1, h.2.1, fun j v hj => ?_⟩
  by_cases e : j = i
  · subst e
    rw [List.getElem?_set_self hi] at hj
    exact absurd hj (by simp)
  · rw [List.getElem?_set_ne (fun q => e q.symm)] at hj
    refine h.2.2 (j, pm_rv ad v) (List.mem_cons_of_mem _ (List.mem_filter.mpr ⟨pm_as_mem.mpr ⟨v, hj, rfl⟩, ?_⟩))
    have e1 : (j == i) = false := by simpa using e
    by_cases e2 : j + 1 = i
    · subst e2
      have := pm_c1_spec hc hj
      simp [e1, pm_rv_cat, this]
    · simp [e1, e2]
section PMH
variable {mi : pm_Mi} {T : pm_Tg} {kc ks pc : Nat} {lo : List (Option Value)} {st : List Value} {μ : pm_Mm}
theorem pm_q_astore {a : Nat} (hd : decode (pm_cc mi) pc = .ok (.astore a, 2)) (hn : a < pm_nL mi) (h1 : pm_c1 lo a = true) (h2 : a < lo.length) (k : pm_V mi T kc ks (pc + 2) (lo.set a none) [] μ) : pm_VQ mi T kc ks pc lo μ := by
  intro p l e s m args below meth c D tc ad A hO H locs cells slots ls hc hs hP hD hS hlv q
  obtain ⟨hx, hb, hml, hown, hts, hr, hlk, htr, hst, hA, htab, hZ⟩ := id hO
  exact lv_astore hx hb hd hlv.has hn rfl (fun ls2 hl2 => k p l e s m args below meth c D tc ad A hO H locs cells slots ls2 hc hs hP hD hS (pm_LV.stoN h1 h2 hl2))
theorem pm_q_astore_n {j : Fin 4} {a : Nat} (hd : decode (pm_cc mi) pc = .ok (.astore_n j, 1)) (ha : (j : Nat) = a) (hn : a < pm_nL mi) (h1 : pm_c1 lo a = true) (h2 : a < lo.length) (k : pm_V mi T kc ks (pc + 1) (lo.set a none) [] μ) : pm_VQ mi T kc ks pc lo μ := by
  intro p l e s m args below meth c D tc ad A hO H locs cells slots ls hc hs hP hD hS hlv q
  obtain ⟨hx, hb, hml, hown, hts, hr, hlk, htr, hst, hA, htab, hZ⟩ := id hO
  exact lv_astore_n hx hb hd ha hlv.has hn rfl (fun ls2 hl2 => k p l e s m args below meth c D tc ad A hO H locs cells slots ls2 hc hs hP hD hS (pm_LV.stoN h1 h2 hl2))
theorem pm_callVH (mi2 : pm_Mi) {ix b ci n : Nat} {As rest : List Value} {fs : List (Option Nat)} {P2 : Option Value → pm_Mm → Prop} {X2 : String → pm_Mm → Prop} (hM : pm_CT mi2 (.ref b :: As) μ P2 X2) (hcal : pm_CalV mi2 n) (hl : Cond.methodLink (pm_R (pm_id mi)) ix (pm_y mi2) ∈ pm_good) (hf : pm_fit mi mi2 kc ks = true)
    (hd : decode (pm_cc mi) pc = .ok (.invokevirtual ix, 3)) (hn : As.length = n) (hsh : pm_sh[b]? = some (.inr (ci, fs))) (hci : (pm_cl[ci]?).map (fun q => q.1) = some (pm_y mi2).cls) (hst0 : st = As.reverse ++ .ref b :: rest) (hW : (rest.map fun v => v.category).sum ≤ 8)
    (kx : ∀ E μ', X2 E μ' → ∃ hp, pm_hd mi pc E hp ∧ pm_VQ mi T (kc + (pm_rm mi2).cells) (ks + (pm_rm mi2).slots) hp lo μ') (k : ∀ v μ', P2 v μ' → pm_V mi T (kc + (pm_rm mi2).cells) (ks + (pm_rm mi2).slots) (pc + 3) lo (v.toList ++ rest) μ') : pm_V mi T kc ks pc lo st μ := by
  intro p l e s m args below meth c D tc ad A hO H locs cells slots ls hc hs hP hD hS hlv
  obtain ⟨hx, hb, hml, hown, hts, hr, hlk, htr, hst, hA, htab, hZ⟩ := id hO
  obtain ⟨hK, hNw, hStr, hCs, hDc, hNc, hU, hN⟩ := id hst
  have hf2 := hf
  simp only [pm_fit, Bool.and_eq_true, decide_eq_true_eq] at hf2
  have hsub := pm_sub hD hS hA
  have hcb := pm_callB (mi := mi) (kc := kc) (ks := ks) hts hcal.1 hl hf
  have hrecv : ∃ cell : Cell, H[ad b]? = some cell ∧ cell.vm.isStatics = false ∧ s.vm.findClass (pm_y mi2).cls = some cell.cls := by
    cases hq : pm_cl[ci]? with
    | none => rw [hq] at hci; cases hci
    | some q =>
      rw [hq] at hci
      have h1 : q.1 = (pm_y mi2).cls := Option.some.inj hci
      rw [← h1]
      exact va_recv hK hP hq (pm_ws_get hsh)
  have hrun := vx_runV (Ts := pm_good) (own := pm_R (pm_id mi)) (C := (pm_y mi2).cls) (As := As.map (pm_rv ad)) (b := ad b) (rest := rest.map (pm_rv ad)) (g := F0 m pc ls (st.map (pm_rv ad))) (H := H) (locs := locs) (cells := cells) (slots := slots) (e := e) (below := below) (meth := meth) ⟨hx, hb, hml, hown, hts⟩ (hM l D tc ad H.size htr) ⟨hcb, hts _ hcal.2.1, hts _ hcal.2.2⟩
    ⟨pm_Pc_blind, hrecv, fun U hU hW => ⟨rfl, by rw [hU], by rw [hU]; exact hP, hD.weaken (fun _ _ _ _ => trivial), hst.go hW hU hS hsub⟩⟩ rfl (by rw [List.length_map]; exact hn) hlv.1 (by rw [hst0, List.map_append, List.map_reverse]; rfl)
    (by rw [pm_cats]; simpa [JFrame.monitorRoom] using hW) hd ⟨Nat.le_trans (Nat.add_le_add_right hc _) hf2.2.2.1, Nat.le_trans (Nat.add_le_add_right hs _) hf2.2.2.2⟩
  intro T0 hT0 X0
  rcases hrun T0 hT0 X0 with ⟨v, st₀, t, T', L, h0, X', hL, e1, e2, ⟨⟨v', μ', hv, hp, hP2, hD2⟩, hF⟩, stp⟩ | ⟨q, st₀, t, T', L, E, ce, h0, X', hL, e1, e2, ⟨⟨μ', hp, hP2, hD2⟩, hF⟩, hce, hcv, hcl, stp⟩
  · have hv2 : v = v'.map (pm_rv ad) := by injection hv
    subst hv2
    obtain ⟨k1, k2, k3⟩ := vx_keep h0 e1 hS (fun q _ h => hsub q h) hsub hL hF
    obtain ⟨t2, a1, b1⟩ := k v' μ' hp p l e s m args below meth c D tc ad A hO T'.heap (locs ++ L) _ _ ls (Nat.add_le_add_right hc _) (Nat.add_le_add_right hs _) (by rw [e1]; exact hP2) (hD2.weaken (fun _ _ _ h => hsub _ h)) k3 hlv T' rfl X'
    rw [← pm_stk] at a1
    exact ⟨t2, stp t2 a1, b1⟩
  · obtain ⟨k1, k2, k3⟩ := vx_keep h0 e1 hS (fun q _ h => hsub q h) hsub hL hF
    obtain ⟨hp9, ⟨pre, x9, suf, name, g1, g2, ⟨g3, g3'⟩, g4, g5, g6, g7⟩, kk⟩ := kx E μ' hp
    obtain ⟨t2, a1, b1⟩ := vx_catch (p := p) (l := l) (e := e) (R := pm_rm mi) (s := s) (m := m) (args := args) (below := below) (meth := meth) (c := c) (H := T'.heap) (locs := locs ++ L) (ls := ls) (rest := rest.map (pm_rv ad)) (pc := pc) (own := pm_R (pm_id mi)) (name := name) (E := E) (ce := ce) (q := q) (Q := vx_MQ below (pm_Qc D tc ad A T.1) (pm_XC D tc ad A T.2.1) args s (pm_rm mi).cells (pm_rm mi).slots A) hown (tableOf pre) ⟨x9.1, x9.2.1, x9.2.2.1, x9.2.2.2⟩ (tableOf suf) (by rw [htab, g1]; unfold tableOf; rw [List.map_append, List.map_cons])
      (fun z hz => by
        unfold tableOf at hz
        obtain ⟨y, hy, rfl⟩ := List.mem_map.mp hz
        obtain ⟨w1, nm, w2, w3⟩ := g2 y hy
        exact Or.inr ⟨w1, nm, hts _ w2, hNc _ w3⟩)
      (by simp only [covers, Bool.and_eq_true, decide_eq_true_eq]; exact ⟨g3, g3'⟩) g4 (hts _ g5) (va_Nw.use rfl (hCs _ g6)) (by rw [e1]; exact hce) hcv hcl
      (by rw [g7]; exact kk p l e s m args below meth c D tc ad A hO T'.heap (locs ++ L) _ _ ls (Nat.add_le_add_right hc _) (Nat.add_le_add_right hs _) (by rw [e1]; exact hP2) (hD2.weaken (fun _ _ _ h => hsub _ h)) k3 hlv q) T' rfl X'
    exact ⟨t2, stp.trans a1, b1⟩
end PMH
theorem pm_CT_ofH {mi : pm_Mi} {av : List Value} {μ : pm_Mm} {P : Option Value → pm_Mm → Prop} {X : String → pm_Mm → Prop} {lo : List (Option Value)} (hy : plainName (pm_y mi).cls = true) (hcls : (pm_y mi).cls = pm_R (pm_id mi)) (hh : (pm_hh mi).isEmpty = false) (h1 : ∀ v ∈ av, v.category = 1) (hl : av.length ≤ pm_nL mi) (hlo : lo = av.map some ++ List.replicate (pm_nL mi - av.length) none)
    (k : pm_V mi (P, X, fun _ _ _ => True) 0 0 0 lo [] μ) : pm_CT mi av μ P X := by
  intro l D tc ad sz htr
  refine vx_ofWH (cc := pm_cc mi) (maxL := pm_nL mi) (ret := pm_rt mi) (hh := pm_hh mi) (ws' := pm_good) hy (by unfold pm_wsy; rw [hh]; rfl) ?_
  intro p e s m args below meth c s₁ B hml hv
  obtain ⟨rfl, hsz, hP, hD0, hst⟩ := hv
  subst hsz
  have hts : ∀ w ∈ pm_good, w.before ((av.map (pm_rv ad)).toArray) s = true := fun w hw => atoms_spec (ws := pm_wsy mi) B.pre w (by unfold pm_wsy; exact List.mem_cons_of_mem _ hw)
  have hown : s.vm.findClass (pm_R (pm_id mi)) = some m.cls := by rw [← hcls]; exact findClass_of_methodNamed B.named
  have htab : c.exceptionTable.toList = tableOf (pm_hh mi) := vx_table (x := pm_y mi) B (atoms_spec (ws := pm_wsy mi) B.pre _ (by unfold pm_wsy; rw [hh]; exact List.mem_cons_self))
  rw [lg_entry_eq]
  exact k p l e s m _ below meth c D tc ad (va_A (pm_ws tc ad μ) s.heap.size) ⟨B.exec, B.bytes, hml, hown, hts, B.returns, B.notSynchronized, htr, hst, fun q h => Or.inr h, htab, trivial⟩ s.heap [] 0 0 _ (Nat.le_refl _) (Nat.le_refl _) hP hD0.self va_S.rf (pm_LV_entry h1 hl hlo)
