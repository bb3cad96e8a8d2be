/-! the machine over a written world, with a word of the start: for the law's own beginning -/
def gz_Ok (D : va_G) (tc : Nat → ClassId) (mi : pm_Mi) (p : Program) (l : Launch) (s : State) (m : MethodId) (args : Array Value) (meth : Method) (c : Code) (A : Nat → Prop) : Prop :=
  p.tables.exec = Jvm.exec ∧ c.code = pm_cc mi ∧ c.maxLocals = pm_nL mi ∧ s.vm.findClass (pm_R (pm_id mi)) = some m.cls ∧ (∀ w ∈ pm_good, w.before args s = true) ∧ meth.sig.returnType = pm_rt mi ∧ meth.locks = false ∧ l.stackTraces = false ∧ pm_St0 s A D tc ∧ (∀ q, s.heap.size ≤ q → A q) ∧ c.exceptionTable.toList = tableOf (pm_hh mi)
def gz_V (Z : State → (Nat → Prop) → Prop) (D : va_G) (tc : Nat → ClassId) (mi : pm_Mi) (P : Option Value → va_W → Prop) (kc ks : Nat) (pc : Nat) (lo : List (Option Value)) (st : List Value) (ws : va_W) : Prop :=
  ∀ (p : Program) (l : Launch) (e : Env) (s : State) (m : MethodId) (args : Array Value) (below : List Frame) (meth : Method) (c : Code) (A : Nat → Prop),
    gz_Ok D tc mi p l s m args meth c A → Z s A → ∀ (H : Heap) (locs : List Loc) (cells slots : Nat) (ls : Array Slot), cells ≤ kc → slots ≤ ks →
      va_P D pm_cl ws H → va_D A ws → va_S A s.heap H locs → pm_LV id ls (pm_nL mi) lo →
      W p l e (pm_rm mi) s m args below meth c H locs cells slots (MQ below (gm_Qc D A P) args s (pm_rm mi).cells (pm_rm mi).slots A) (F0 m pc ls st)
section GZ
variable {Z : State → (Nat → Prop) → Prop} {D : va_G} {tc : Nat → ClassId} {mi : pm_Mi} {P : Option Value → va_W → Prop} {kc ks pc : Nat} {lo : List (Option Value)} {st : List Value} {ws : va_W}
theorem gz_V.drop {lo' : List (Option Value)} (hl : pm_le lo' lo) (k : gz_V Z D tc mi P kc ks pc lo' st ws) : gz_V Z D tc mi P kc ks pc lo st ws :=
  fun p l e s m args below meth c A hO hz H locs cells slots ls hc hs hP hD hS hlv => k p l e s m args below meth c A hO hz H locs cells slots ls hc hs hP hD hS (hlv.le hl)
theorem gz_V.grow {kc' ks' : Nat} (h1 : kc ≤ kc') (h2 : ks ≤ ks') (k : gz_V Z D tc mi P kc' ks' pc lo st ws) : gz_V Z D tc mi P kc ks pc lo st ws :=
  fun p l e s m args below meth c A hO hz H locs cells slots ls hc hs hP hD hS hlv => k p l e s m args below meth c A hO hz H locs cells slots ls (Nat.le_trans hc h1) (Nat.le_trans hs h2) hP hD hS hlv
theorem gz_V.perm {ws' : va_W} (hp : ws.Perm ws') (k : gz_V Z D tc mi P kc ks pc lo st ws') : gz_V Z D tc mi P kc ks pc lo st ws :=
  fun p l e s m args below meth c A hO hz H locs cells slots ls hc hs hP hD hS hlv => k p l e s m args below meth c A hO hz H locs cells slots ls hc hs (gm_P_mem hP (fun q hq => hp.mem_iff.mpr hq)) (gm_D_perm hD hp) hS hlv
theorem gz_istore {a : Nat} {x : Int32} (hd : decode (pm_cc mi) pc = .ok (.istore a, 2)) (hn : a < pm_nL mi) (h1 : pm_c1 lo a = true) (h2 : a < lo.length) (k : gz_V Z D tc mi P kc ks (pc + 2) (lo.set a (some (.int x))) st ws) : gz_V Z D tc mi P kc ks pc lo (.int x :: st) ws := by
  intro p l e s m args below meth c A hO hz H locs cells slots ls hc hs hP hD hS hlv
  obtain ⟨hx, hb, hml, hown, hts, hr, hlk, htr, hst, hA, htab⟩ := id hO
  exact lv_istore hx hb hd hlv.has hn rfl (fun ls2 hl2 => k p l e s m args below meth c A hO hz H locs cells slots ls2 hc hs hP hD hS (pm_LV.sto h1 h2 hl2))
theorem gz_astore_n {j : Fin 4} {a : Nat} {x : Nat} (hd : decode (pm_cc mi) pc = .ok (.astore_n j, 1)) (ha : (j : Nat) = a) (hn : a < pm_nL mi) (h1 : pm_c1 lo a = true) (h2 : a < lo.length) (k : gz_V Z D tc mi P kc ks (pc + 1) (lo.set a (some (.ref x))) st ws) : gz_V Z D tc mi P kc ks pc lo (.ref x :: st) ws := by
  intro p l e s m args below meth c A hO hz H locs cells slots ls hc hs hP hD hS hlv
  obtain ⟨hx, hb, hml, hown, hts, hr, hlk, htr, hst, hA, htab⟩ := id hO
  exact lv_astore_n hx hb hd ha hlv.has hn rfl (fun ls2 hl2 => k p l e s m args below meth c A hO hz H locs cells slots ls2 hc hs hP hD hS (pm_LV.sto h1 h2 hl2))
theorem gz_iconst {z : Int} {v : Int32} (hv : Int32.ofInt z = v) (hd : decode (pm_cc mi) pc = .ok (.iconst z, 1)) (k : gz_V Z D tc mi P kc ks (pc + 1) lo (.int v :: st) ws) : gz_V Z D tc mi P kc ks pc lo (st) ws := by
  intro p l e s m args below meth c A hO hz H locs cells slots ls hc hs hP hD hS hlv
  obtain ⟨hx, hb, hml, hown, hts, hr, hlk, htr, hst, hA, htab⟩ := id hO
  exact lv_iconst hx hb hd hv (k p l e s m args below meth c A hO hz H locs cells slots ls hc hs hP hD hS hlv)
theorem gz_dup {v : Value} (hv : v.category = 1) (hd : decode (pm_cc mi) pc = .ok (.dup, 1)) (k : gz_V Z D tc mi P kc ks (pc + 1) lo (v :: v :: st) ws) : gz_V Z D tc mi P kc ks pc lo (v :: st) ws := by
  intro p l e s m args below meth c A hO hz H locs cells slots ls hc hs hP hD hS hlv
  obtain ⟨hx, hb, hml, hown, hts, hr, hlk, htr, hst, hA, htab⟩ := id hO
  exact lv_dup hx hb hd hv (k p l e s m args below meth c A hO hz H locs cells slots ls hc hs hP hD hS hlv)
theorem gz_new {ix ci N : Nat} {C : String} {T : u_T} {fs : List Value} (ty : Nat → FieldType) (hcf : pm_CF ci) (hc0 : pm_cl[ci]? = some (C, T, N)) (hty : ∀ k, k < N → parseFieldDescriptor (T k).2.2.1 = some (ty k)) (hl : Cond.classLink (pm_R (pm_id mi)) ix C ∈ pm_good) (hi : Cond.instantiable C N ∈ pm_good) (hn : Cond.initialized C ∈ pm_good) (hfs : ∀ j, j < N → defaultValue (ty j) = vp_V fs j) (hkc : kc + 1 ≤ (pm_rm mi).cells) (hks : ks + N ≤ (pm_rm mi).slots) (hd : decode (pm_cc mi) pc = .ok (.new ix, 3))
    (k : ∀ q, gz_V Z D tc mi P (kc + 1) (ks + N) (pc + 3) lo (.ref q :: st) (ws ++ [(q, .inr (ci, fs))])) : gz_V Z D tc mi P kc ks pc lo st ws := by
  intro p l e s m args below meth c A hO hz H locs cells slots ls hc hs hP hD hS hlv
  obtain ⟨hx, hb, hml, hown, hts, hr, hlk, htr, hst, hA, htab⟩ := id hO
  obtain ⟨hin, -⟩ := gm_cfx hcf hc0
  exact va_new hx hb hts hin ty hty hown (hts _ hl) (hts _ hi) (hts _ hn) hst.1 hP hD hS hA hc0 hfs (by omega) (by omega) hd (fun q H2 hP2 hD2 hS2 => k q p l e s m args below meth c A hO hz H2 locs (cells + 1) (slots + N) ls (Nat.add_le_add_right hc _) (Nat.add_le_add_right hs _) hP2 hD2 hS2 hlv)
theorem gz_newa_long {n : Int32} {N : Nat} (hn : ¬ n < 0) (hN : n.toNatClampNeg = N) (hbig : N ≤ 65536) (hkc : kc + 1 ≤ (pm_rm mi).cells) (hks : ks + N ≤ (pm_rm mi).slots) (hd : decode (pm_cc mi) pc = .ok (.newarray .long, 2))
    (k : ∀ q, gz_V Z D tc mi P (kc + 1) (ks + N) (pc + 2) lo (.ref q :: st) (ws ++ [(q, .inl (tc 2, N, .inr (.inl (fun _ => 0))))])) : gz_V Z D tc mi P kc ks pc lo (.int n :: st) ws := by
  intro p l e s m args below meth c A hO hz H locs cells slots ls hc hs hP hD hS hlv
  obtain ⟨hx, hb, hml, hown, hts, hr, hlk, htr, hst, hA, htab⟩ := id hO
  refine va_newa (atype := .long) (ty := .long) (a0 := (N, .inr (.inl (fun _ => 0)))) hx hb (hts _ gm_wa_long) rfl hst.1 hP hD hS hA (fun cA => rfl) hn hN (by show N * 8 ≤ _; omega) (by omega) (by omega) hd (fun q cA H2 hK2 hP2 hD2 hS2 => ?_)
  have e1 : s.vm.findClass ("[" ++ (.long : FieldType).toString) = some cA := (hK2.2 6 (cA, .long) rfl).2
  have e2 : s.vm.findClass ("[" ++ (.long : FieldType).toString) = some (tc 2) := (hst.1.2 2 (tc 2, .long) rfl).2
  cases Option.some.inj (e1.symm.trans e2)
  exact k q p l e s m args below meth c A hO hz H2 locs (cells + 1) (slots + N) ls (Nat.add_le_add_right hc _) (Nat.add_le_add_right hs _) hP2 hD2 hS2 hlv
theorem gz_newa_double {n : Int32} {N : Nat} (hn : ¬ n < 0) (hN : n.toNatClampNeg = N) (hbig : N ≤ 65536) (hkc : kc + 1 ≤ (pm_rm mi).cells) (hks : ks + N ≤ (pm_rm mi).slots) (hd : decode (pm_cc mi) pc = .ok (.newarray .double, 2))
    (k : ∀ q, gz_V Z D tc mi P (kc + 1) (ks + N) (pc + 2) lo (.ref q :: st) (ws ++ [(q, .inl (tc 3, N, .inr (.inr (.inr (.inl (fun _ => 0))))))])) : gz_V Z D tc mi P kc ks pc lo (.int n :: st) ws := by
  intro p l e s m args below meth c A hO hz H locs cells slots ls hc hs hP hD hS hlv
  obtain ⟨hx, hb, hml, hown, hts, hr, hlk, htr, hst, hA, htab⟩ := id hO
  refine va_newa (atype := .double) (ty := .double) (a0 := (N, .inr (.inr (.inr (.inl (fun _ => 0)))))) hx hb (hts _ gm_wa_double) rfl hst.1 hP hD hS hA (fun cA => rfl) hn hN (by show N * 8 ≤ _; omega) (by omega) (by omega) hd (fun q cA H2 hK2 hP2 hD2 hS2 => ?_)
  have e1 : s.vm.findClass ("[" ++ (.double : FieldType).toString) = some cA := (hK2.2 6 (cA, .double) rfl).2
  have e2 : s.vm.findClass ("[" ++ (.double : FieldType).toString) = some (tc 3) := (hst.1.2 3 (tc 3, .double) rfl).2
  cases Option.some.inj (e1.symm.trans e2)
  exact k q p l e s m args below meth c A hO hz H2 locs (cells + 1) (slots + N) ls (Nat.add_le_add_right hc _) (Nat.add_le_add_right hs _) hP2 hD2 hS2 hlv
theorem gz_callI (mi2 : pm_Mi) {ix n kc2 ks2 : Nat} {As rest : List Value} {wc wr : va_W} {P2 : Option Value → va_W → Prop} {b : Nat} (hM : gm_CT D tc mi2 (.ref b :: As) wc P2) (hw : ws = wc ++ wr) (hcal : pm_Cal mi2 n) (hi : Cond.instanceMethod (pm_y mi2) ∈ pm_good) (hin : (pm_y mi2).name = "<init>") (hrt : pm_rt mi2 = none) (hl : Cond.methodLink (pm_R (pm_id mi)) ix (pm_y mi2) ∈ pm_good) (hf : pm_fit mi mi2 kc ks = true) (hd : decode (pm_cc mi) pc = .ok (.invokespecial ix, 3)) (hn : As.length = n) (hst0 : st = As.reverse ++ .ref b :: rest) (hW : (rest.map fun v => v.category).sum ≤ 8) (g1 : kc + (pm_rm mi2).cells ≤ kc2) (g2 : ks + (pm_rm mi2).slots ≤ ks2) (k : ∀ v w1, P2 v w1 → gz_V Z D tc mi P kc2 ks2 (pc + 3) lo (v.toList ++ rest) (w1 ++ wr)) : gz_V Z D tc mi P kc ks pc lo st ws := by
  intro p l e s m args below meth c A hO hz H locs cells slots ls hc hs hP hD hS hlv
  obtain ⟨hx, hb, hml, hown, hts, hr, hlk, htr, hst, hA, htab⟩ := id hO
  subst hw
  subst hst0
  have hf2 := hf
  simp only [pm_fit, Bool.and_eq_true, decide_eq_true_eq] at hf2
  have hsub := gm_sub rfl hD hS hA
  have hPc : va_P D pm_cl wc H := gm_P_mem hP (fun q hq => List.mem_append_left _ hq)
  have hDc : va_D A wc := gm_D_left hD
  have hcb := pm_callB (mi := mi) (kc := kc) (ks := ks) hts hcal hl hf
  rw [hrt] at hcb
  have hrun := va_runI (Ts := pm_good) (own := pm_R (pm_id mi)) (As := As) (b := b) (rest := rest) (g := F0 m pc ls (As.reverse ++ .ref b :: rest)) (H := H) (locs := locs) (cells := cells) (slots := slots) (e := e) (below := below) (meth := meth)
    ⟨hx, hb, hml, hown, hts⟩ (hM l H.size htr) ⟨hcb, hin, hts _ hi⟩ ⟨gm_Pc_blind, fun U hU hW9 => ⟨rfl, by rw [hU], by rw [hU]; exact hPc, hDc.weaken (fun _ _ _ _ => trivial), hst.go hW9 hU hS hsub⟩⟩ rfl hn hlv.1 rfl (by simpa [JFrame.monitorRoom] using hW) hd ⟨Nat.le_trans (Nat.add_le_add_right hc _) hf2.2.2.1, Nat.le_trans (Nat.add_le_add_right hs _) hf2.2.2.2⟩
  intro T0 hT0 X0
  obtain ⟨v, st₀, t, T', L, h0, X', hL, e1, e2, ⟨⟨v', w1, hv, hp, hP2, hD2⟩, hF⟩, stp⟩ := hrun T0 hT0 X0
  have hv2 : v = v' := by injection hv
  subst hv2
  obtain ⟨k1, k2, k3⟩ := vx_keep h0 e1 hS (fun q _ h => hsub q h) hsub hL hF
  obtain ⟨j1, j2⟩ := gm_join hP hD k2 hsub (by rw [e1]; exact hP2) hD2
  obtain ⟨t2, a1, b1⟩ := k v w1 hp p l e s m args below meth c A hO hz T'.heap (locs ++ L) _ _ ls (Nat.le_trans (Nat.add_le_add_right hc _) g1) (Nat.le_trans (Nat.add_le_add_right hs _) g2) j1 j2 k3 hlv T' rfl X'
  exact ⟨t2, stp t2 a1, b1⟩
theorem gz_astore {a : Nat} {x : Nat} (hd : decode (pm_cc mi) pc = .ok (.astore a, 2)) (hn : a < pm_nL mi) (h1 : pm_c1 lo a = true) (h2 : a < lo.length) (k : gz_V Z D tc mi P kc ks (pc + 2) (lo.set a (some (.ref x))) st ws) : gz_V Z D tc mi P kc ks pc lo (.ref x :: st) ws := by
  intro p l e s m args below meth c A hO hz H locs cells slots ls hc hs hP hD hS hlv
  obtain ⟨hx, hb, hml, hown, hts, hr, hlk, htr, hst, hA, htab⟩ := id hO
  exact lv_astore hx hb hd hlv.has hn rfl (fun ls2 hl2 => k p l e s m args below meth c A hO hz H locs cells slots ls2 hc hs hP hD hS (pm_LV.sto h1 h2 hl2))
/-- from here the fixed list of cells -/
theorem gz_pm {ad : Nat → Nat} {T1 : Option Value → pm_Mm → Prop} {Zp : State → (Nat → Prop) → (Nat → Nat) → Prop} {lo2 : List (Option Value)} {st2 : List Value} {μ : pm_Mm} (hZ : ∀ s A, Z s A → Zp s A ad) (hPg : ∀ v M, T1 v M → P (v.map (pm_rv ad)) (pm_ws tc ad M)) (hlo : lo = lo2.map (Option.map (pm_rv ad))) (hst2 : st = st2.map (pm_rv ad)) (hp : ws.Perm (pm_ws tc ad μ))
    (k : pm_V mi (T1, pm_NX, Zp) kc ks pc lo2 st2 μ) : gz_V Z D tc mi P kc ks pc lo st ws := by
  subst hlo; subst hst2
  refine gz_V.perm hp ?_
  intro p l e s m args below meth c A hO hz H locs cells slots ls hc hs hP hD hS hlv
  obtain ⟨hx, hb, hml, hown, hts, hr, hlk, htr, hst, hA, htab⟩ := id hO
  have hlv2 : pm_LV ad ls (pm_nL mi) lo2 := ⟨hlv.1, hlv.2.1, fun i v hv => by
    have h9 := hlv.2.2 i (pm_rv ad v) (by rw [List.getElem?_map, hv]; rfl)
    rw [pm_rv_id] at h9
    exact h9⟩
  have h1 := k p l e s m args below meth c D tc ad A ⟨hx, hb, hml, hown, hts, hr, hlk, htr, hst, hA, htab, hZ s A hz⟩ H locs cells slots ls hc hs hP hD hS hlv2
  intro T hT X
  obtain ⟨t, a1, o, b1, b2, b3⟩ := h1 T hT X
  refine ⟨t, a1, o, b1, b2, ?_⟩
  rcases b3 with ⟨⟨⟨v, M, e1, e2, e3, e4⟩, e5⟩, e6⟩ | ⟨q, e0, E, ce, L, ⟨⟨M, hf, -⟩, -⟩, -⟩
  · exact ⟨⟨⟨_, _, e1, hPg v M e2, e3, e4⟩, e5⟩, e6⟩
  · exact hf.elim
end GZ
