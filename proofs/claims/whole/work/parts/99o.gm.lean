/-! THE MACHINE OVER A WRITTEN WORLD: for what makes cells, and for a builder of text -/
theorem pm_rv_id (v : Value) : pm_rv id v = v := by cases v <;> rfl
theorem pm_rvs_id (vs : List Value) : vs.map (pm_rv id) = vs := by
  rw [show pm_rv id = id from funext pm_rv_id, List.map_id]
def gm_Ok (D : va_G) (tc : Nat → ClassId) (mi : pm_Mi) (p : Program) (l : Launch) (s : State) (m : MethodId) (args : Array Value) (meth : Method) (c : Code) (A : Nat → Prop) : Prop :=
  p.tables.exec = Jvm.exec ∧ c.code = pm_cc mi ∧ c.maxLocals = pm_nL mi ∧ s.vm.findClass (pm_R (pm_id mi)) = some m.cls ∧ (∀ w ∈ pm_good, w.before args s = true) ∧ meth.sig.returnType = pm_rt mi ∧ meth.locks = false ∧ l.stackTraces = false ∧ pm_St0 s A D tc ∧ (∀ q, s.heap.size ≤ q → A q) ∧ meth.name = (pm_y mi).name ∧ c.exceptionTable.toList = tableOf (pm_hh mi)
def gm_Pc (D : va_G) (tc : Nat → ClassId) (sz : Nat) (av : List Value) (ws : va_W) : Array Value → State → Prop :=
  va_Pc av (fun U => U.heap.size = sz ∧ va_P D pm_cl ws U.heap ∧ va_D (fun _ => True) ws ∧ pm_St0 U (va_A ws sz) D tc)
def gm_Qc (D : va_G) (A : Nat → Prop) (P : Option Value → va_W → Prop) : Array Value → State → Outcome → State → Prop :=
  fun _ st o t => (∃ (v : Option Value) (w : va_W), o = .returned v ∧ P v w ∧ va_P D pm_cl w t.heap ∧ va_D A w) ∧ va_F A st t
/-- the machine, standing at pc over this world, comes to its end as P says -/
def gm_V (D : va_G) (tc : Nat → ClassId) (mi : pm_Mi) (P : Option Value → va_W → Prop) (kc ks : Nat) (pc : Nat) (lo : List (Option Value)) (st : List Value) (ws : va_W) : Prop :=
  ∀ (p : Program) (l : Launch) (e : Env) (s : State) (m : MethodId) (args : Array Value) (below : List Frame) (meth : Method) (c : Code) (A : Nat → Prop),
    gm_Ok D tc mi p l s m args meth c A → ∀ (H : Heap) (locs : List Loc) (cells slots : Nat) (ls : Array Slot), cells ≤ kc → slots ≤ ks →
      va_P D pm_cl ws H → va_D A ws → va_S A s.heap H locs → pm_LV id ls (pm_nL mi) lo →
      W p l e (pm_rm mi) s m args below meth c H locs cells slots (MQ below (gm_Qc D A P) args s (pm_rm mi).cells (pm_rm mi).slots A) (F0 m pc ls st)
/-- from this world, with these arguments, the method returns as P says -/
def gm_CT (D : va_G) (tc : Nat → ClassId) (mi : pm_Mi) (av : List Value) (ws : va_W) (P : Option Value → va_W → Prop) : Prop :=
  ∀ (l : Launch) (sz : Nat), l.stackTraces = false → Met l (pm_y mi) (pm_wsy mi) (pm_rm mi) (gm_Pc D tc sz av ws) (gm_Qc D (va_A ws sz) P) (pm_rm mi).cells (pm_rm mi).slots (va_A ws sz)
theorem gm_Pc_blind {D : va_G} {tc : Nat → ClassId} {sz : Nat} {av : List Value} {ws : va_W} : FrameBlind (gm_Pc D tc sz av ws) := by
  intro a U g mk h
  obtain ⟨h1, h2, h3, h4, h5⟩ := h
  exact ⟨h1, h2, h3, h4, h5.blind g mk a⟩
theorem gm_CT_of {D : va_G} {tc : Nat → ClassId} {mi : pm_Mi} {av : List Value} {ws : va_W} {P : Option Value → va_W → Prop} {lo : List (Option Value)} (hy : plainName (pm_y mi).cls = true) (hcls : (pm_y mi).cls = pm_R (pm_id mi)) (hh : pm_hh mi = []) (h1 : ∀ v ∈ av, v.category = 1) (hl : av.length ≤ pm_nL mi) (hlo : lo = av.map some ++ List.replicate (pm_nL mi - av.length) none)
    (k : gm_V D tc mi P 0 0 0 lo [] ws) : gm_CT D tc mi av ws P := by
  intro l sz htr
  refine Met.ofW (cc := pm_cc mi) (maxL := pm_nL mi) (ret := pm_rt mi) (ws' := pm_good) hy (by unfold pm_wsy; rw [hh]; rfl) ?_
  intro p e s m args below meth c s₁ B hml hv
  obtain ⟨rfl, hsz, hP, hD0, hst⟩ := hv
  subst hsz
  have hts : ∀ w ∈ pm_good, w.before (av.toArray) s = true := fun w hw => atoms_spec (ws := pm_wsy mi) B.pre w (by unfold pm_wsy; exact List.mem_cons_of_mem _ hw)
  have hown : s.vm.findClass (pm_R (pm_id mi)) = some m.cls := by rw [← hcls]; exact findClass_of_methodNamed B.named
  have hco : (Cond.code (pm_y mi) (pm_cc mi) (pm_nL mi) (pm_rt mi)).before (av.toArray) s = true := atoms_spec (ws := pm_wsy mi) B.pre _ (by unfold pm_wsy; rw [hh]; exact List.mem_cons_self)
  have htab : c.exceptionTable.toList = tableOf (pm_hh mi) := by
    rw [hh]
    obtain ⟨meth9, c9, h1, h2, -, -, -, -, h7, -⟩ := Cond.code_spec B.named hco
    cases Option.some.inj (h1.symm.trans B.method)
    cases Option.some.inj (h2.symm.trans (Stand.of_body B).code)
    rw [Array.isEmpty_iff] at h7
    rw [h7]
    rfl
  rw [lg_entry_eq]
  have hlv := pm_LV_entry (ad := id) h1 hl hlo
  rw [pm_rvs_id] at hlv
  exact k p l e s m _ below meth c (va_A ws s.heap.size) ⟨B.exec, B.bytes, hml, hown, hts, B.returns, B.notSynchronized, htr, hst, fun q h => Or.inr h, (name_of_methodNamed B.named B.method).1, htab⟩ s.heap [] 0 0 _ (Nat.le_refl _) (Nat.le_refl _) hP hD0.self va_S.rf hlv
theorem gm_cfx {ci : Nat} {C : String} {T : u_T} {N : Nat} (h : pm_CF ci) (hc : pm_cl[ci]? = some (C, T, N)) : (∀ w ∈ u_ws C T N, w ∈ pm_good) ∧ ∃ ty : Nat → FieldType, (∀ k, k < N → parseFieldDescriptor (T k).2.2.1 = some (ty k)) ∧ (∀ a, a < N → ∀ b, b < N → a ≠ b → (T a).2.1 ≠ (T b).2.1) := by
  obtain ⟨C2, T2, N2, ty, hc2, hin, hty, hnm⟩ := h
  cases Option.some.inj (hc.symm.trans hc2)
  exact ⟨hin, ty, hty, hnm⟩
/-- the two worlds hold the same cells -/
theorem gm_P_mem {D : va_G} {cl : List vw_C} {ws ws' : va_W} {H : Heap} (h : va_P D cl ws H) (hm : ∀ q, q ∈ ws' → q ∈ ws) : va_P D cl ws' H := by
  intro k q hk
  obtain ⟨i, hi⟩ := List.getElem?_of_mem (hm q (List.mem_of_getElem? hk))
  exact h i q hi
theorem gm_D_iff {A : Nat → Prop} {ws : va_W} : va_D A ws ↔ (ws.map (fun q => q.1)).Nodup ∧ ∀ q ∈ ws, A q.1 := by
  constructor
  · rintro ⟨h1, h2⟩
    refine ⟨?_, fun q hq => ?_⟩
    · rw [List.Nodup, List.pairwise_iff_getElem]
      intro i j hi hj hij he
      rw [List.length_map] at hi hj
      rw [List.getElem_map, List.getElem_map] at he
      have := h1 i j ws[i] ws[j] (List.getElem?_eq_getElem hi) (List.getElem?_eq_getElem hj) he
      omega
    · obtain ⟨i, hi⟩ := List.getElem?_of_mem hq
      exact h2 i q hi
  · rintro ⟨h1, h2⟩
    rw [List.Nodup, List.pairwise_iff_getElem] at h1
    refine ⟨fun i j x y hi hj he => ?_, fun k q hk => h2 q (List.mem_of_getElem? hk)⟩
    obtain ⟨li, ei⟩ := List.getElem?_eq_some_iff.mp hi
    obtain ⟨lj, ej⟩ := List.getElem?_eq_some_iff.mp hj
    rcases Nat.lt_trichotomy i j with q | q | q
    · exact absurd (by rw [List.getElem_map, List.getElem_map, ei, ej]; exact he) (h1 i j (by rw [List.length_map]; exact li) (by rw [List.length_map]; exact lj) q)
    · exact q
    · exact absurd (by rw [List.getElem_map, List.getElem_map, ei, ej]; exact he.symm) (h1 j i (by rw [List.length_map]; exact lj) (by rw [List.length_map]; exact li) q)
theorem gm_D_perm {A : Nat → Prop} {ws ws' : va_W} (h : va_D A ws) (hp : ws.Perm ws') : va_D A ws' := by
  rw [gm_D_iff] at h ⊢
  exact ⟨(hp.map _).nodup h.1, fun q hq => h.2 q (hp.mem_iff.mpr hq)⟩
theorem gm_D_right {A : Nat → Prop} {w1 w2 : va_W} (h : va_D A (w1 ++ w2)) : va_D A w2 := by
  rw [gm_D_iff] at h ⊢
  rw [List.map_append, List.nodup_append] at h
  exact ⟨h.1.2.1, fun q hq => h.2 q (List.mem_append_right _ hq)⟩
theorem gm_D_left {A : Nat → Prop} {w1 w2 : va_W} (h : va_D A (w1 ++ w2)) : va_D A w1 := by
  rw [gm_D_iff] at h ⊢
  rw [List.map_append, List.nodup_append] at h
  exact ⟨h.1.1, fun q hq => h.2 q (List.mem_append_left _ hq)⟩
/-- what a call brought back beside the rest -/
theorem gm_join {A : Nat → Prop} {D : va_G} {cl : List vw_C} {wc wr w1 : va_W} {H H1 : Heap} (hP : va_P D cl (wc ++ wr) H) (hD : va_D A (wc ++ wr)) (hk : ∀ q : Nat, q < H.size → ¬ va_A wc H.size q → H1[q]? = H[q]?) (hsub : ∀ q, va_A wc H.size q → A q) (hP1 : va_P D cl w1 H1) (hD1 : va_D (va_A wc H.size) w1) : va_P D cl (w1 ++ wr) H1 ∧ va_D A (w1 ++ wr) := by
  have ap : ∀ q ∈ wr, q.1 < H.size ∧ ¬ va_A wc H.size q.1 := by
    intro q hq
    obtain ⟨j, hj⟩ := List.getElem?_of_mem hq
    have hj2 : (wc ++ wr)[wc.length + j]? = some q := by rw [List.getElem?_append_right (by omega)]; rw [show wc.length + j - wc.length = j by omega]; exact hj
    have hlt := (hP _ q hj2).lt
    refine ⟨hlt, fun ha => ?_⟩
    rcases ha with ⟨k, e, hk9⟩ | ha
    · have hl : k < wc.length := (List.getElem?_eq_some_iff.mp hk9).1
      have hk2 : (wc ++ wr)[k]? = some (q.1, e) := by rw [List.getElem?_append_left hl]; exact hk9
      have := hD.1 _ _ _ _ hj2 hk2 rfl
      omega
    · exact absurd hlt (by omega)
  have hPr : va_P D cl wr H := gm_P_mem hP (fun q hq => List.mem_append_right _ hq)
  refine ⟨hP1.app (hPr.kept (fun k q hk9 => ?_)), ?_⟩
  · obtain ⟨a1, a2⟩ := ap q (List.mem_of_getElem? hk9)
    exact hk q.1 a1 a2
  · refine (hD1.weaken (fun _ _ _ h => hsub _ h)).app (gm_D_right hD) (fun i j x y hi hj he => ?_)
    have hx := hD1.2 i x hi
    rw [he] at hx
    exact (ap y (List.mem_of_getElem? hj)).2 hx
theorem gm_sub {A : Nat → Prop} {ws wc wr : va_W} {H0 H : Heap} {locs : List Loc} (hw : ws = wc ++ wr) (hD : va_D A ws) (hS : va_S A H0 H locs) (hA : ∀ q, H0.size ≤ q → A q) : ∀ q, va_A wc H.size q → A q := by
  intro q h
  rcases h with ⟨k, e, h⟩ | h
  · have hl : k < wc.length := (List.getElem?_eq_some_iff.mp h).1
    exact hD.2 k (q, e) (by rw [hw, List.getElem?_append_left hl]; exact h)
  · exact hA q (Nat.le_trans hS.1 h)
theorem gm_wmin1 : Cond.static Lib.Math.min.name ∈ pm_good := pm_tab (i := 362) (by decide +kernel) rfl
theorem gm_wmin3 : Cond.code Lib.Math.min.name Lib.Math.min.code 2 (some .int) ∈ pm_good := pm_tab (i := 363) (by decide +kernel) rfl
theorem gm_wmax1 : Cond.static Lib.Math.max.name ∈ pm_good := pm_tab (i := 1000) (by decide +kernel) rfl
theorem gm_wmax3 : Cond.code Lib.Math.max.name Lib.Math.max.code 2 (some .int) ∈ pm_good := pm_tab (i := 1001) (by decide +kernel) rfl
theorem gm_wo1 : Cond.instanceMethod Lib.objectInit ∈ pm_good := pm_tab (i := 40) (by decide +kernel) rfl
theorem gm_wo2 : Cond.code Lib.objectInit ⟨#[0xb1]⟩ 1 none ∈ pm_good := pm_tab (i := 41) (by decide +kernel) rfl
theorem gm_wa_int : Cond.arrayClass .int ∈ pm_good := pm_tab (i := 68) (by decide +kernel) rfl
theorem gm_wa_char : Cond.arrayClass .char ∈ pm_good := pm_tab (i := 315) (by decide +kernel) rfl
theorem gm_wa_byte : Cond.arrayClass .byte ∈ pm_good := pm_tab (i := 484) (by decide +kernel) rfl
theorem gm_wa_long : Cond.arrayClass .long ∈ pm_good := pm_tab (i := 1650) (by decide +kernel) rfl
theorem gm_wa_double : Cond.arrayClass .double ∈ pm_good := pm_tab (i := 1651) (by decide +kernel) rfl
section GM
variable {D : va_G} {tc : Nat → ClassId} {mi : pm_Mi} {P : Option Value → va_W → Prop} {kc ks pc : Nat} {lo : List (Option Value)} {st : List Value} {ws : va_W}
theorem gm_V.drop {lo' : List (Option Value)} (hl : pm_le lo' lo) (k : gm_V D tc mi P kc ks pc lo' st ws) : gm_V D tc mi P kc ks pc lo st ws :=
  fun p l e s m args below meth c A hO H locs cells slots ls hc hs hP hD hS hlv => k p l e s m args below meth c A hO H locs cells slots ls hc hs hP hD hS (hlv.le hl)
theorem gm_V.grow {kc' ks' : Nat} (h1 : kc ≤ kc') (h2 : ks ≤ ks') (k : gm_V D tc mi P kc' ks' pc lo st ws) : gm_V D tc mi P kc ks pc lo st ws :=
  fun p l e s m args below meth c A hO H locs cells slots ls hc hs hP hD hS hlv => k p l e s m args below meth c A hO H locs cells slots ls (Nat.le_trans hc h1) (Nat.le_trans hs h2) hP hD hS hlv
theorem gm_V.perm {ws' : va_W} (hp : ws.Perm ws') (k : gm_V D tc mi P kc ks pc lo st ws') : gm_V D tc mi P kc ks pc lo st ws :=
  fun p l e s m args below meth c A hO H locs cells slots ls hc hs hP hD hS hlv => k p l e s m args below meth c A hO H locs cells slots ls hc hs (gm_P_mem hP (fun q hq => hp.mem_iff.mpr hq)) (gm_D_perm hD hp) hS hlv
theorem gm_V.sub {ws' : va_W} (is : List Nat) (hn : va_nd is = true) (hs0 : is.map (fun i => ws[i]?) = ws'.map some) (k : gm_V D tc mi P kc ks pc lo st ws') : gm_V D tc mi P kc ks pc lo st ws := by
  intro p l e s m args below meth c A hO H locs cells slots ls hc hs hP hD hS hlv
  refine k p l e s m args below meth c A hO H locs cells slots ls hc hs (gm_P_mem hP (fun q hq => ?_)) (hD.sub is hn hs0) hS hlv
  have h1 : some q ∈ is.map (fun i => ws[i]?) := by rw [hs0]; exact List.mem_map.mpr ⟨q, hq, rfl⟩
  obtain ⟨i, -, hi⟩ := List.mem_map.mp h1
  exact List.mem_of_getElem? hi
theorem gm_aload_n {j : Fin 4} {a : Nat} {x : Nat} (hd : decode (pm_cc mi) pc = .ok (.aload_n j, 1)) (ha : (j : Nat) = a) (hl : lo[a]? = some (some (.ref x))) (k : gm_V D tc mi P kc ks (pc + 1) lo (.ref x :: st) ws) : gm_V D tc mi P kc ks pc lo st ws := by
  intro p l e s m args below meth c A hO H locs cells slots ls hc hs hP hD hS hlv
  obtain ⟨hx, hb, hml, hown, hts, hr, hlk, htr, hst, hA, hnm, htab⟩ := id hO
  exact lv_aload_n hx hb hd ha (hlv.2.2 _ _ hl) (k p l e s m args below meth c A hO H locs cells slots ls hc hs hP hD hS hlv)
theorem gm_iload_n {j : Fin 4} {a : Nat} {x : Int32} (hd : decode (pm_cc mi) pc = .ok (.iload_n j, 1)) (ha : (j : Nat) = a) (hl : lo[a]? = some (some (.int x))) (k : gm_V D tc mi P kc ks (pc + 1) lo (.int x :: st) ws) : gm_V D tc mi P kc ks pc lo st ws := by
  intro p l e s m args below meth c A hO H locs cells slots ls hc hs hP hD hS hlv
  obtain ⟨hx, hb, hml, hown, hts, hr, hlk, htr, hst, hA, hnm, htab⟩ := id hO
  exact lv_iload_n hx hb hd ha (hlv.2.2 _ _ hl) (k p l e s m args below meth c A hO H locs cells slots ls hc hs hP hD hS hlv)
theorem gm_iload {a : Nat} {x : Int32} (hd : decode (pm_cc mi) pc = .ok (.iload a, 2)) (hl : lo[a]? = some (some (.int x))) (k : gm_V D tc mi P kc ks (pc + 2) lo (.int x :: st) ws) : gm_V D tc mi P kc ks pc lo st ws := by
  intro p l e s m args below meth c A hO H locs cells slots ls hc hs hP hD hS hlv
  obtain ⟨hx, hb, hml, hown, hts, hr, hlk, htr, hst, hA, hnm, htab⟩ := id hO
  exact lv_iload hx hb hd (hlv.2.2 _ _ hl) (k p l e s m args below meth c A hO H locs cells slots ls hc hs hP hD hS hlv)
theorem gm_istore_n {j : Fin 4} {a : Nat} {x : Int32} (hd : decode (pm_cc mi) pc = .ok (.istore_n j, 1)) (ha : (j : Nat) = a) (hn : a < pm_nL mi) (h1 : pm_c1 lo a = true) (h2 : a < lo.length) (k : gm_V D tc mi P kc ks (pc + 1) (lo.set a (some (.int x))) st ws) : gm_V D tc mi P kc ks pc lo (.int x :: st) ws := by
  intro p l e s m args below meth c A hO H locs cells slots ls hc hs hP hD hS hlv
  obtain ⟨hx, hb, hml, hown, hts, hr, hlk, htr, hst, hA, hnm, htab⟩ := id hO
  exact lv_istore_n hx hb hd ha hlv.has hn rfl (fun ls2 hl2 => k p l e s m args below meth c A hO H locs cells slots ls2 hc hs hP hD hS (pm_LV.sto h1 h2 hl2))
theorem gm_astore_n {j : Fin 4} {a : Nat} {x : Nat} (hd : decode (pm_cc mi) pc = .ok (.astore_n j, 1)) (ha : (j : Nat) = a) (hn : a < pm_nL mi) (h1 : pm_c1 lo a = true) (h2 : a < lo.length) (k : gm_V D tc mi P kc ks (pc + 1) (lo.set a (some (.ref x))) st ws) : gm_V D tc mi P kc ks pc lo (.ref x :: st) ws := by
  intro p l e s m args below meth c A hO H locs cells slots ls hc hs hP hD hS hlv
  obtain ⟨hx, hb, hml, hown, hts, hr, hlk, htr, hst, hA, hnm, htab⟩ := id hO
  exact lv_astore_n hx hb hd ha hlv.has hn rfl (fun ls2 hl2 => k p l e s m args below meth c A hO H locs cells slots ls2 hc hs hP hD hS (pm_LV.sto h1 h2 hl2))
theorem gm_istore {a : Nat} {x : Int32} (hd : decode (pm_cc mi) pc = .ok (.istore a, 2)) (hn : a < pm_nL mi) (h1 : pm_c1 lo a = true) (h2 : a < lo.length) (k : gm_V D tc mi P kc ks (pc + 2) (lo.set a (some (.int x))) st ws) : gm_V D tc mi P kc ks pc lo (.int x :: st) ws := by
  intro p l e s m args below meth c A hO H locs cells slots ls hc hs hP hD hS hlv
  obtain ⟨hx, hb, hml, hown, hts, hr, hlk, htr, hst, hA, hnm, htab⟩ := id hO
  exact lv_istore hx hb hd hlv.has hn rfl (fun ls2 hl2 => k p l e s m args below meth c A hO H locs cells slots ls2 hc hs hP hD hS (pm_LV.sto h1 h2 hl2))
theorem gm_iinc {a : Nat} {z : Int} {x v : Int32} (hd : decode (pm_cc mi) pc = .ok (.iinc a z, 3)) (hv : Int32.ofInt z = v) (hl : lo[a]? = some (some (.int x))) (hn : a < pm_nL mi) (h1 : pm_c1 lo a = true) (h2 : a < lo.length) (k : gm_V D tc mi P kc ks (pc + 3) (lo.set a (some (.int (x + v)))) st ws) : gm_V D tc mi P kc ks pc lo st ws := by
  intro p l e s m args below meth c A hO H locs cells slots ls hc hs hP hD hS hlv
  obtain ⟨hx, hb, hml, hown, hts, hr, hlk, htr, hst, hA, hnm, htab⟩ := id hO
  obtain ⟨kk, hkk⟩ := List.getElem?_of_mem (pm_as_mem (ad := id) (lo := lo) (q := (a, .int x)) |>.mpr ⟨.int x, hl, rfl⟩)
  exact lv_iinc hx hb hd hlv.has hkk (by rw [hv]) hn rfl (fun ls2 hl2 => k p l e s m args below meth c A hO H locs cells slots ls2 hc hs hP hD hS (pm_LV.sto h1 h2 hl2))
theorem gm_iconst {z : Int} {v : Int32} (hv : Int32.ofInt z = v) (hd : decode (pm_cc mi) pc = .ok (.iconst z, 1)) (k : gm_V D tc mi P kc ks (pc + 1) lo (.int v :: st) ws) : gm_V D tc mi P kc ks pc lo (st) ws := by
  intro p l e s m args below meth c A hO H locs cells slots ls hc hs hP hD hS hlv
  obtain ⟨hx, hb, hml, hown, hts, hr, hlk, htr, hst, hA, hnm, htab⟩ := id hO
  exact lv_iconst hx hb hd hv (k p l e s m args below meth c A hO H locs cells slots ls hc hs hP hD hS hlv)
theorem gm_bipush {z : Int} {v : Int32} (hv : (Int8.ofInt z).toInt32 = v) (hd : decode (pm_cc mi) pc = .ok (.bipush z, 2)) (k : gm_V D tc mi P kc ks (pc + 2) lo (.int v :: st) ws) : gm_V D tc mi P kc ks pc lo (st) ws := by
  intro p l e s m args below meth c A hO H locs cells slots ls hc hs hP hD hS hlv
  obtain ⟨hx, hb, hml, hown, hts, hr, hlk, htr, hst, hA, hnm, htab⟩ := id hO
  exact lv_bipush hx hb hd hv (k p l e s m args below meth c A hO H locs cells slots ls hc hs hP hD hS hlv)
theorem gm_sipush {z : Int} {v : Int32} (hv : (Int16.ofInt z).toInt32 = v) (hd : decode (pm_cc mi) pc = .ok (.sipush z, 3)) (k : gm_V D tc mi P kc ks (pc + 3) lo (.int v :: st) ws) : gm_V D tc mi P kc ks pc lo (st) ws := by
  intro p l e s m args below meth c A hO H locs cells slots ls hc hs hP hD hS hlv
  obtain ⟨hx, hb, hml, hown, hts, hr, hlk, htr, hst, hA, hnm, htab⟩ := id hO
  exact lv_sipush hx hb hd hv (k p l e s m args below meth c A hO H locs cells slots ls hc hs hP hD hS hlv)
theorem gm_iadd {x y : Int32} (hd : decode (pm_cc mi) pc = .ok (.iadd, 1)) (k : gm_V D tc mi P kc ks (pc + 1) lo (.int (x + y) :: st) ws) : gm_V D tc mi P kc ks pc lo (.int y :: .int x :: st) ws := by
  intro p l e s m args below meth c A hO H locs cells slots ls hc hs hP hD hS hlv
  obtain ⟨hx, hb, hml, hown, hts, hr, hlk, htr, hst, hA, hnm, htab⟩ := id hO
  exact lv_iadd hx hb hd  (k p l e s m args below meth c A hO H locs cells slots ls hc hs hP hD hS hlv)
theorem gm_isub {x y : Int32} (hd : decode (pm_cc mi) pc = .ok (.isub, 1)) (k : gm_V D tc mi P kc ks (pc + 1) lo (.int (x - y) :: st) ws) : gm_V D tc mi P kc ks pc lo (.int y :: .int x :: st) ws := by
  intro p l e s m args below meth c A hO H locs cells slots ls hc hs hP hD hS hlv
  obtain ⟨hx, hb, hml, hown, hts, hr, hlk, htr, hst, hA, hnm, htab⟩ := id hO
  exact lv_isub hx hb hd  (k p l e s m args below meth c A hO H locs cells slots ls hc hs hP hD hS hlv)
theorem gm_imul {x y : Int32} (hd : decode (pm_cc mi) pc = .ok (.imul, 1)) (k : gm_V D tc mi P kc ks (pc + 1) lo (.int (x * y) :: st) ws) : gm_V D tc mi P kc ks pc lo (.int y :: .int x :: st) ws := by
  intro p l e s m args below meth c A hO H locs cells slots ls hc hs hP hD hS hlv
  obtain ⟨hx, hb, hml, hown, hts, hr, hlk, htr, hst, hA, hnm, htab⟩ := id hO
  exact lv_imul hx hb hd  (k p l e s m args below meth c A hO H locs cells slots ls hc hs hP hD hS hlv)
theorem gm_iand {x y : Int32} (hd : decode (pm_cc mi) pc = .ok (.iand, 1)) (k : gm_V D tc mi P kc ks (pc + 1) lo (.int (x &&& y) :: st) ws) : gm_V D tc mi P kc ks pc lo (.int y :: .int x :: st) ws := by
  intro p l e s m args below meth c A hO H locs cells slots ls hc hs hP hD hS hlv
  obtain ⟨hx, hb, hml, hown, hts, hr, hlk, htr, hst, hA, hnm, htab⟩ := id hO
  exact lv_iand hx hb hd  (k p l e s m args below meth c A hO H locs cells slots ls hc hs hP hD hS hlv)
theorem gm_ishl {x y : Int32} (hd : decode (pm_cc mi) pc = .ok (.ishl, 1)) (k : gm_V D tc mi P kc ks (pc + 1) lo (.int (x <<< (y &&& 31)) :: st) ws) : gm_V D tc mi P kc ks pc lo (.int y :: .int x :: st) ws := by
  intro p l e s m args below meth c A hO H locs cells slots ls hc hs hP hD hS hlv
  obtain ⟨hx, hb, hml, hown, hts, hr, hlk, htr, hst, hA, hnm, htab⟩ := id hO
  exact lv_ishl hx hb hd  (k p l e s m args below meth c A hO H locs cells slots ls hc hs hP hD hS hlv)
theorem gm_ishr {x y : Int32} (hd : decode (pm_cc mi) pc = .ok (.ishr, 1)) (k : gm_V D tc mi P kc ks (pc + 1) lo (.int (x >>> (y &&& 31)) :: st) ws) : gm_V D tc mi P kc ks pc lo (.int y :: .int x :: st) ws := by
  intro p l e s m args below meth c A hO H locs cells slots ls hc hs hP hD hS hlv
  obtain ⟨hx, hb, hml, hown, hts, hr, hlk, htr, hst, hA, hnm, htab⟩ := id hO
  exact lv_ishr hx hb hd  (k p l e s m args below meth c A hO H locs cells slots ls hc hs hP hD hS hlv)
theorem gm_idiv {x y : Int32} (hne : ¬ y = 0) (hd : decode (pm_cc mi) pc = .ok (.idiv, 1)) (k : gm_V D tc mi P kc ks (pc + 1) lo (.int (x / y) :: st) ws) : gm_V D tc mi P kc ks pc lo (.int y :: .int x :: st) ws := by
  intro p l e s m args below meth c A hO H locs cells slots ls hc hs hP hD hS hlv
  obtain ⟨hx, hb, hml, hown, hts, hr, hlk, htr, hst, hA, hnm, htab⟩ := id hO
  exact lv_idiv hx hb hd hne (k p l e s m args below meth c A hO H locs cells slots ls hc hs hP hD hS hlv)
theorem gm_ineg {x : Int32} (hd : decode (pm_cc mi) pc = .ok (.ineg, 1)) (k : gm_V D tc mi P kc ks (pc + 1) lo (.int (-x) :: st) ws) : gm_V D tc mi P kc ks pc lo (.int x :: st) ws := by
  intro p l e s m args below meth c A hO H locs cells slots ls hc hs hP hD hS hlv
  obtain ⟨hx, hb, hml, hown, hts, hr, hlk, htr, hst, hA, hnm, htab⟩ := id hO
  exact lv_ineg hx hb hd  (k p l e s m args below meth c A hO H locs cells slots ls hc hs hP hD hS hlv)
theorem gm_i2c {x : Int32} (hd : decode (pm_cc mi) pc = .ok (.i2c, 1)) (k : gm_V D tc mi P kc ks (pc + 1) lo (.int (x.toUInt32 % 65536).toInt32 :: st) ws) : gm_V D tc mi P kc ks pc lo (.int x :: st) ws := by
  intro p l e s m args below meth c A hO H locs cells slots ls hc hs hP hD hS hlv
  obtain ⟨hx, hb, hml, hown, hts, hr, hlk, htr, hst, hA, hnm, htab⟩ := id hO
  exact lv_i2c hx hb hd rfl (k p l e s m args below meth c A hO H locs cells slots ls hc hs hP hD hS hlv)
theorem gm_i2b {x : Int32} (hd : decode (pm_cc mi) pc = .ok (.i2b, 1)) (k : gm_V D tc mi P kc ks (pc + 1) lo (.int x.toInt8.toInt32 :: st) ws) : gm_V D tc mi P kc ks pc lo (.int x :: st) ws := by
  intro p l e s m args below meth c A hO H locs cells slots ls hc hs hP hD hS hlv
  obtain ⟨hx, hb, hml, hown, hts, hr, hlk, htr, hst, hA, hnm, htab⟩ := id hO
  exact lv_i2b hx hb hd rfl (k p l e s m args below meth c A hO H locs cells slots ls hc hs hP hD hS hlv)
theorem gm_dup {v : Value} (hv : v.category = 1) (hd : decode (pm_cc mi) pc = .ok (.dup, 1)) (k : gm_V D tc mi P kc ks (pc + 1) lo (v :: v :: st) ws) : gm_V D tc mi P kc ks pc lo (v :: st) ws := by
  intro p l e s m args below meth c A hO H locs cells slots ls hc hs hP hD hS hlv
  obtain ⟨hx, hb, hml, hown, hts, hr, hlk, htr, hst, hA, hnm, htab⟩ := id hO
  exact lv_dup hx hb hd hv (k p l e s m args below meth c A hO H locs cells slots ls hc hs hP hD hS hlv)
theorem gm_dup_x1 {v u : Value} (hv : v.category = 1) (hu : u.category = 1) (hd : decode (pm_cc mi) pc = .ok (.dup_x1, 1)) (k : gm_V D tc mi P kc ks (pc + 1) lo (v :: u :: v :: st) ws) : gm_V D tc mi P kc ks pc lo (v :: u :: st) ws := by
  intro p l e s m args below meth c A hO H locs cells slots ls hc hs hP hD hS hlv
  obtain ⟨hx, hb, hml, hown, hts, hr, hlk, htr, hst, hA, hnm, htab⟩ := id hO
  exact lv_dup_x1 hx hb hd hv hu (k p l e s m args below meth c A hO H locs cells slots ls hc hs hP hD hS hlv)
theorem gm_pop {v : Value} (hv : v.category = 1) (hd : decode (pm_cc mi) pc = .ok (.pop, 1)) (k : gm_V D tc mi P kc ks (pc + 1) lo (st) ws) : gm_V D tc mi P kc ks pc lo (v :: st) ws := by
  intro p l e s m args below meth c A hO H locs cells slots ls hc hs hP hD hS hlv
  obtain ⟨hx, hb, hml, hown, hts, hr, hlk, htr, hst, hA, hnm, htab⟩ := id hO
  exact lv_pop hx hb hd hv (k p l e s m args below meth c A hO H locs cells slots ls hc hs hP hD hS hlv)
theorem gm_ldc {ix : Nat} {v : Int32} (hl : Cond.constant (pm_R (pm_id mi)) ix v ∈ pm_good) (hd : decode (pm_cc mi) pc = .ok (.ldc ix, 2)) (k : gm_V D tc mi P kc ks (pc + 2) lo (.int v :: st) ws) : gm_V D tc mi P kc ks pc lo (st) ws := by
  intro p l e s m args below meth c A hO H locs cells slots ls hc hs hP hD hS hlv
  obtain ⟨hx, hb, hml, hown, hts, hr, hlk, htr, hst, hA, hnm, htab⟩ := id hO
  exact lv_ldc hx hb hown (hts _ hl) hd  (k p l e s m args below meth c A hO H locs cells slots ls hc hs hP hD hS hlv)
theorem gm_goto {off : Int} {tgt : Nat} (hd : decode (pm_cc mi) pc = .ok (.goto off, 3)) (ht : (pc : Int) + off = (tgt : Int)) (k : gm_V D tc mi P kc ks tgt lo st ws) : gm_V D tc mi P kc ks pc lo st ws := by
  intro p l e s m args below meth c A hO H locs cells slots ls hc hs hP hD hS hlv
  obtain ⟨hx, hb, hml, hown, hts, hr, hlk, htr, hst, hA, hnm, htab⟩ := id hO
  exact lv_goto hx hb hd ht (k p l e s m args below meth c A hO H locs cells slots ls hc hs hP hD hS hlv)
theorem gm_icmp_eq {x y : Int32} {off : Int} (tgt : Nat) (hd : decode (pm_cc mi) pc = .ok (.if_icmp .eq off, 3)) (ht : (pc : Int) + off = (tgt : Int)) (k1 : x = y → gm_V D tc mi P kc ks tgt lo st ws) (k2 : ¬ (x = y) → gm_V D tc mi P kc ks (pc + 3) lo st ws) : gm_V D tc mi P kc ks pc lo (.int y :: .int x :: st) ws := by
  intro p l e s m args below meth c A hO H locs cells slots ls hc hs hP hD hS hlv
  obtain ⟨hx, hb, hml, hown, hts, hr, hlk, htr, hst, hA, hnm, htab⟩ := id hO
  exact lv_icmp_eq hx hb hd ht (fun h9 => k1 h9 p l e s m args below meth c A hO H locs cells slots ls hc hs hP hD hS hlv) (fun h9 => k2 h9 p l e s m args below meth c A hO H locs cells slots ls hc hs hP hD hS hlv)
theorem gm_icmp_ne {x y : Int32} {off : Int} (tgt : Nat) (hd : decode (pm_cc mi) pc = .ok (.if_icmp .ne off, 3)) (ht : (pc : Int) + off = (tgt : Int)) (k1 : ¬ x = y → gm_V D tc mi P kc ks tgt lo st ws) (k2 : x = y → gm_V D tc mi P kc ks (pc + 3) lo st ws) : gm_V D tc mi P kc ks pc lo (.int y :: .int x :: st) ws := by
  intro p l e s m args below meth c A hO H locs cells slots ls hc hs hP hD hS hlv
  obtain ⟨hx, hb, hml, hown, hts, hr, hlk, htr, hst, hA, hnm, htab⟩ := id hO
  exact lv_icmp_ne hx hb hd ht (fun h9 => k1 h9 p l e s m args below meth c A hO H locs cells slots ls hc hs hP hD hS hlv) (fun h9 => k2 h9 p l e s m args below meth c A hO H locs cells slots ls hc hs hP hD hS hlv)
theorem gm_icmp_lt {x y : Int32} {off : Int} (tgt : Nat) (hd : decode (pm_cc mi) pc = .ok (.if_icmp .lt off, 3)) (ht : (pc : Int) + off = (tgt : Int)) (k1 : x < y → gm_V D tc mi P kc ks tgt lo st ws) (k2 : ¬ (x < y) → gm_V D tc mi P kc ks (pc + 3) lo st ws) : gm_V D tc mi P kc ks pc lo (.int y :: .int x :: st) ws := by
  intro p l e s m args below meth c A hO H locs cells slots ls hc hs hP hD hS hlv
  obtain ⟨hx, hb, hml, hown, hts, hr, hlk, htr, hst, hA, hnm, htab⟩ := id hO
  exact lv_icmp_lt hx hb hd ht (fun h9 => k1 h9 p l e s m args below meth c A hO H locs cells slots ls hc hs hP hD hS hlv) (fun h9 => k2 h9 p l e s m args below meth c A hO H locs cells slots ls hc hs hP hD hS hlv)
theorem gm_icmp_ge {x y : Int32} {off : Int} (tgt : Nat) (hd : decode (pm_cc mi) pc = .ok (.if_icmp .ge off, 3)) (ht : (pc : Int) + off = (tgt : Int)) (k1 : y ≤ x → gm_V D tc mi P kc ks tgt lo st ws) (k2 : ¬ (y ≤ x) → gm_V D tc mi P kc ks (pc + 3) lo st ws) : gm_V D tc mi P kc ks pc lo (.int y :: .int x :: st) ws := by
  intro p l e s m args below meth c A hO H locs cells slots ls hc hs hP hD hS hlv
  obtain ⟨hx, hb, hml, hown, hts, hr, hlk, htr, hst, hA, hnm, htab⟩ := id hO
  exact lv_icmp_ge hx hb hd ht (fun h9 => k1 h9 p l e s m args below meth c A hO H locs cells slots ls hc hs hP hD hS hlv) (fun h9 => k2 h9 p l e s m args below meth c A hO H locs cells slots ls hc hs hP hD hS hlv)
theorem gm_icmp_gt {x y : Int32} {off : Int} (tgt : Nat) (hd : decode (pm_cc mi) pc = .ok (.if_icmp .gt off, 3)) (ht : (pc : Int) + off = (tgt : Int)) (k1 : y < x → gm_V D tc mi P kc ks tgt lo st ws) (k2 : ¬ (y < x) → gm_V D tc mi P kc ks (pc + 3) lo st ws) : gm_V D tc mi P kc ks pc lo (.int y :: .int x :: st) ws := by
  intro p l e s m args below meth c A hO H locs cells slots ls hc hs hP hD hS hlv
  obtain ⟨hx, hb, hml, hown, hts, hr, hlk, htr, hst, hA, hnm, htab⟩ := id hO
  exact lv_icmp_gt hx hb hd ht (fun h9 => k1 h9 p l e s m args below meth c A hO H locs cells slots ls hc hs hP hD hS hlv) (fun h9 => k2 h9 p l e s m args below meth c A hO H locs cells slots ls hc hs hP hD hS hlv)
theorem gm_icmp_le {x y : Int32} {off : Int} (tgt : Nat) (hd : decode (pm_cc mi) pc = .ok (.if_icmp .le off, 3)) (ht : (pc : Int) + off = (tgt : Int)) (k1 : x ≤ y → gm_V D tc mi P kc ks tgt lo st ws) (k2 : ¬ (x ≤ y) → gm_V D tc mi P kc ks (pc + 3) lo st ws) : gm_V D tc mi P kc ks pc lo (.int y :: .int x :: st) ws := by
  intro p l e s m args below meth c A hO H locs cells slots ls hc hs hP hD hS hlv
  obtain ⟨hx, hb, hml, hown, hts, hr, hlk, htr, hst, hA, hnm, htab⟩ := id hO
  exact lv_icmp_le hx hb hd ht (fun h9 => k1 h9 p l e s m args below meth c A hO H locs cells slots ls hc hs hP hD hS hlv) (fun h9 => k2 h9 p l e s m args below meth c A hO H locs cells slots ls hc hs hP hD hS hlv)
theorem gm_if_eq {x : Int32} {off : Int} (tgt : Nat) (hd : decode (pm_cc mi) pc = .ok (.ifCond .eq off, 3)) (ht : (pc : Int) + off = (tgt : Int)) (k1 : x = 0 → gm_V D tc mi P kc ks tgt lo st ws) (k2 : ¬ (x = 0) → gm_V D tc mi P kc ks (pc + 3) lo st ws) : gm_V D tc mi P kc ks pc lo (.int x :: st) ws := by
  intro p l e s m args below meth c A hO H locs cells slots ls hc hs hP hD hS hlv
  obtain ⟨hx, hb, hml, hown, hts, hr, hlk, htr, hst, hA, hnm, htab⟩ := id hO
  exact lv_if_eq hx hb hd ht (fun h9 => k1 h9 p l e s m args below meth c A hO H locs cells slots ls hc hs hP hD hS hlv) (fun h9 => k2 h9 p l e s m args below meth c A hO H locs cells slots ls hc hs hP hD hS hlv)
theorem gm_if_ne {x : Int32} {off : Int} (tgt : Nat) (hd : decode (pm_cc mi) pc = .ok (.ifCond .ne off, 3)) (ht : (pc : Int) + off = (tgt : Int)) (k1 : ¬ x = 0 → gm_V D tc mi P kc ks tgt lo st ws) (k2 : x = 0 → gm_V D tc mi P kc ks (pc + 3) lo st ws) : gm_V D tc mi P kc ks pc lo (.int x :: st) ws := by
  intro p l e s m args below meth c A hO H locs cells slots ls hc hs hP hD hS hlv
  obtain ⟨hx, hb, hml, hown, hts, hr, hlk, htr, hst, hA, hnm, htab⟩ := id hO
  exact lv_if_ne hx hb hd ht (fun h9 => k1 h9 p l e s m args below meth c A hO H locs cells slots ls hc hs hP hD hS hlv) (fun h9 => k2 h9 p l e s m args below meth c A hO H locs cells slots ls hc hs hP hD hS hlv)
theorem gm_if_lt {x : Int32} {off : Int} (tgt : Nat) (hd : decode (pm_cc mi) pc = .ok (.ifCond .lt off, 3)) (ht : (pc : Int) + off = (tgt : Int)) (k1 : x < 0 → gm_V D tc mi P kc ks tgt lo st ws) (k2 : ¬ (x < 0) → gm_V D tc mi P kc ks (pc + 3) lo st ws) : gm_V D tc mi P kc ks pc lo (.int x :: st) ws := by
  intro p l e s m args below meth c A hO H locs cells slots ls hc hs hP hD hS hlv
  obtain ⟨hx, hb, hml, hown, hts, hr, hlk, htr, hst, hA, hnm, htab⟩ := id hO
  exact lv_if_lt hx hb hd ht (fun h9 => k1 h9 p l e s m args below meth c A hO H locs cells slots ls hc hs hP hD hS hlv) (fun h9 => k2 h9 p l e s m args below meth c A hO H locs cells slots ls hc hs hP hD hS hlv)
theorem gm_if_ge {x : Int32} {off : Int} (tgt : Nat) (hd : decode (pm_cc mi) pc = .ok (.ifCond .ge off, 3)) (ht : (pc : Int) + off = (tgt : Int)) (k1 : 0 ≤ x → gm_V D tc mi P kc ks tgt lo st ws) (k2 : ¬ (0 ≤ x) → gm_V D tc mi P kc ks (pc + 3) lo st ws) : gm_V D tc mi P kc ks pc lo (.int x :: st) ws := by
  intro p l e s m args below meth c A hO H locs cells slots ls hc hs hP hD hS hlv
  obtain ⟨hx, hb, hml, hown, hts, hr, hlk, htr, hst, hA, hnm, htab⟩ := id hO
  exact lv_if_ge hx hb hd ht (fun h9 => k1 h9 p l e s m args below meth c A hO H locs cells slots ls hc hs hP hD hS hlv) (fun h9 => k2 h9 p l e s m args below meth c A hO H locs cells slots ls hc hs hP hD hS hlv)
theorem gm_if_gt {x : Int32} {off : Int} (tgt : Nat) (hd : decode (pm_cc mi) pc = .ok (.ifCond .gt off, 3)) (ht : (pc : Int) + off = (tgt : Int)) (k1 : 0 < x → gm_V D tc mi P kc ks tgt lo st ws) (k2 : ¬ (0 < x) → gm_V D tc mi P kc ks (pc + 3) lo st ws) : gm_V D tc mi P kc ks pc lo (.int x :: st) ws := by
  intro p l e s m args below meth c A hO H locs cells slots ls hc hs hP hD hS hlv
  obtain ⟨hx, hb, hml, hown, hts, hr, hlk, htr, hst, hA, hnm, htab⟩ := id hO
  exact lv_if_gt hx hb hd ht (fun h9 => k1 h9 p l e s m args below meth c A hO H locs cells slots ls hc hs hP hD hS hlv) (fun h9 => k2 h9 p l e s m args below meth c A hO H locs cells slots ls hc hs hP hD hS hlv)
theorem gm_if_le {x : Int32} {off : Int} (tgt : Nat) (hd : decode (pm_cc mi) pc = .ok (.ifCond .le off, 3)) (ht : (pc : Int) + off = (tgt : Int)) (k1 : x ≤ 0 → gm_V D tc mi P kc ks tgt lo st ws) (k2 : ¬ (x ≤ 0) → gm_V D tc mi P kc ks (pc + 3) lo st ws) : gm_V D tc mi P kc ks pc lo (.int x :: st) ws := by
  intro p l e s m args below meth c A hO H locs cells slots ls hc hs hP hD hS hlv
  obtain ⟨hx, hb, hml, hown, hts, hr, hlk, htr, hst, hA, hnm, htab⟩ := id hO
  exact lv_if_le hx hb hd ht (fun h9 => k1 h9 p l e s m args below meth c A hO H locs cells slots ls hc hs hP hD hS hlv) (fun h9 => k2 h9 p l e s m args below meth c A hO H locs cells slots ls hc hs hP hD hS hlv)
theorem gm_get {ix ci N a : Nat} {C : String} {T : u_T} {fs : List Value} {v : Value} (q0 kf : Nat) (hcf : pm_CF ci) (hc0 : pm_cl[ci]? = some (C, T, N)) (he : ws[q0]? = some (a, .inr (ci, fs))) (hkf : kf < N) (hl : Cond.fieldLink (pm_R (pm_id mi)) ix (T kf).1 (T kf).2.1 (T kf).2.2.1 ∈ pm_good) (hv : fs[kf]? = some v) (hd : decode (pm_cc mi) pc = .ok (.getfield ix, 3)) (k : gm_V D tc mi P kc ks (pc + 3) lo (v :: st) ws) : gm_V D tc mi P kc ks pc lo (.ref a :: st) ws := by
  intro p l e s m args below meth c A hO H locs cells slots ls hc hs hP hD hS hlv
  obtain ⟨hx, hb, hml, hown, hts, hr, hlk, htr, hst, hA, hnm, htab⟩ := id hO
  obtain ⟨hin, ty, hty, hnm2⟩ := gm_cfx hcf hc0
  exact va_get hx hb hts hin hown hst.1 hP q0 he hc0 kf hkf (hts _ hl) (fun _ h => h) hv hd (k p l e s m args below meth c A hO H locs cells slots ls hc hs hP hD hS hlv)
theorem gm_put {ix ci N a : Nat} {C : String} {T : u_T} {fs : List Value} {v : Value} (q0 kf : Nat) (hcf : pm_CF ci) (hc0 : pm_cl[ci]? = some (C, T, N)) (he : ws[q0]? = some (a, .inr (ci, fs))) (hkf : kf < N) (hl : Cond.fieldLink (pm_R (pm_id mi)) ix (T kf).1 (T kf).2.1 (T kf).2.2.1 ∈ pm_good) (hfin : (T kf).2.2.2 = false) {ty : FieldType} (hdt : parseFieldDescriptor (T kf).2.2.1 = some ty) (hn : narrow ty v = v) (hft : fits ty v = true) (hlf : kf < fs.length) (hd : decode (pm_cc mi) pc = .ok (.putfield ix, 3)) (k : gm_V D tc mi P kc ks (pc + 3) lo st (ws.set q0 (a, .inr (ci, fs.set kf v)))) : gm_V D tc mi P kc ks pc lo (v :: .ref a :: st) ws := by
  intro p l e s m args below meth c A hO H locs cells slots ls hc hs hP hD hS hlv
  obtain ⟨hx, hb, hml, hown, hts, hr, hlk, htr, hst, hA, hnm, htab⟩ := id hO
  obtain ⟨hin, ty0, hty, hnm2⟩ := gm_cfx hcf hc0
  exact va_put hx hb hts hin ty0 hty hnm2 hown hst.1 hP hD hS q0 he hc0 kf hkf (hts _ hl) (fun _ h => h) hfin hdt hn hft hlf hd (fun H2 locs2 hP2 hD2 hS2 => k p l e s m args below meth c A hO H2 locs2 cells slots ls hc hs hP2 hD2 hS2 hlv)
theorem gm_putF {ix ci N a : Nat} {C : String} {T : u_T} {fs : List Value} {v : Value} (q0 kf : Nat) (hcf : pm_CF ci) (hc0 : pm_cl[ci]? = some (C, T, N)) (he : ws[q0]? = some (a, .inr (ci, fs))) (hkf : kf < N) (hl : Cond.fieldLink (pm_R (pm_id mi)) ix (T kf).1 (T kf).2.1 (T kf).2.2.1 ∈ pm_good) (hfin : (T kf).2.2.2 = true) (hi : (pm_y mi).name = "<init>") (hdc : (T kf).1 = pm_R (pm_id mi)) {ty : FieldType} (hdt : parseFieldDescriptor (T kf).2.2.1 = some ty) (hn : narrow ty v = v) (hft : fits ty v = true) (hlf : kf < fs.length) (hd : decode (pm_cc mi) pc = .ok (.putfield ix, 3)) (k : gm_V D tc mi P kc ks (pc + 3) lo st (ws.set q0 (a, .inr (ci, fs.set kf v)))) : gm_V D tc mi P kc ks pc lo (v :: .ref a :: st) ws := by
  intro p l e s m args below meth c A hO H locs cells slots ls hc hs hP hD hS hlv
  obtain ⟨hx, hb, hml, hown, hts, hr, hlk, htr, hst, hA, hnm, htab⟩ := id hO
  obtain ⟨hin, ty0, hty, hnm2⟩ := gm_cfx hcf hc0
  exact va_putF hx hb hts hin ty0 hty hnm2 hown hst.1 hP hD hS q0 he hc0 kf hkf (hts _ hl) (fun _ h => h) hfin (hnm.trans hi) hdc hdt hn hft hlf hd (fun H2 locs2 hP2 hD2 hS2 => k p l e s m args below meth c A hO H2 locs2 cells slots ls hc hs hP2 hD2 hS2 hlv)
theorem gm_alen {a n : Nat} {f : Nat → Int32} (q0 : Nat) (ha : ws[q0]? = some (a, .inl (tc 5, n, .inl f))) {v : Int32} (hv : Int32.ofNat n = v) (hd : decode (pm_cc mi) pc = .ok (.arraylength, 1)) (k : gm_V D tc mi P kc ks (pc + 1) lo (.int v :: st) ws) : gm_V D tc mi P kc ks pc lo (.ref a :: st) ws := by
  intro p l e s m args below meth c A hO H locs cells slots ls hc hs hP hD hS hlv
  obtain ⟨hx, hb, hml, hown, hts, hr, hlk, htr, hst, hA, hnm, htab⟩ := id hO
  exact va_alen (ty := .byte) hx hb hst.1 hP q0 5 ha rfl hv hd (k p l e s m args below meth c A hO H locs cells slots ls hc hs hP hD hS hlv)
theorem gm_bald {a n : Nat} {f : Nat → Int32} (q0 : Nat) (ha : ws[q0]? = some (a, .inl (tc 5, n, .inl f))) {i : Int32} (hin : vp_in i n) (hd : decode (pm_cc mi) pc = .ok (.baload, 1)) (k : gm_V D tc mi P kc ks (pc + 1) lo (.int (f i.toNatClampNeg) :: st) ws) : gm_V D tc mi P kc ks pc lo (.int i :: .ref a :: st) ws := by
  intro p l e s m args below meth c A hO H locs cells slots ls hc hs hP hD hS hlv
  obtain ⟨hx, hb, hml, hown, hts, hr, hlk, htr, hst, hA, hnm, htab⟩ := id hO
  exact va_bald hx hb hst.1 hP q0 5 ha rfl hin hd (k p l e s m args below meth c A hO H locs cells slots ls hc hs hP hD hS hlv)
theorem gm_bast {a n : Nat} {f : Nat → Int32} (q0 : Nat) (ha : ws[q0]? = some (a, .inl (tc 5, n, .inl f))) {i x : Int32} (hin : vp_in i n) (hd : decode (pm_cc mi) pc = .ok (.bastore, 1)) (k : gm_V D tc mi P kc ks (pc + 1) lo st (ws.set q0 (a, .inl (tc 5, n, .inl (upd f i.toNatClampNeg (vp_nar .byte x)))))) : gm_V D tc mi P kc ks pc lo (.int x :: .int i :: .ref a :: st) ws := by
  intro p l e s m args below meth c A hO H locs cells slots ls hc hs hP hD hS hlv
  obtain ⟨hx, hb, hml, hown, hts, hr, hlk, htr, hst, hA, hnm, htab⟩ := id hO
  exact va_bast hx hb hst.1 hP hD hS q0 5 ha rfl hin hd (fun H2 locs2 hP2 hD2 hS2 => k p l e s m args below meth c A hO H2 locs2 cells slots ls hc hs hP2 hD2 hS2 hlv)
theorem gm_compact {ix : Nat} (hl : Cond.fieldLink (pm_R (pm_id mi)) ix RJ0 "COMPACT_STRINGS" "Z" ∈ pm_good) (hd : decode (pm_cc mi) pc = .ok (.getstatic ix, 3)) (k : gm_V D tc mi P kc ks (pc + 3) lo (.int 1 :: st) ws) : gm_V D tc mi P kc ks pc lo st ws := by
  intro p l e s m args below meth c A hO H locs cells slots ls hc hs hP hD hS hlv
  obtain ⟨hx, hb, hml, hown, hts, hr, hlk, htr, hst, hA, hnm, htab⟩ := id hO
  obtain ⟨-, z1, z2, ⟨t4, z4, z5⟩, ⟨t6, z6, z7⟩⟩ := (show pm_ZB A s s.heap from hst.2.2.2.2.2.2.2.2)
  exact va_gets hx hb z1 hS hown (hts _ hl) (fun _ h => h) hd (k p l e s m args below meth c A hO H locs cells slots ls hc hs hP hD hS hlv)
theorem gm_former {ix : Nat} (hl : Cond.fieldLink (pm_R (pm_id mi)) ix RJ3 "SIOOBE_FORMATTER" "Ljava/util/function/BiFunction;" ∈ pm_good) (hd : decode (pm_cc mi) pc = .ok (.getstatic ix, 3)) (k : ∀ v : Value, v.category = 1 → gm_V D tc mi P kc ks (pc + 3) lo (v :: st) ws) : gm_V D tc mi P kc ks pc lo st ws := by
  intro p l e s m args below meth c A hO H locs cells slots ls hc hs hP hD hS hlv
  obtain ⟨hx, hb, hml, hown, hts, hr, hlk, htr, hst, hA, hnm, htab⟩ := id hO
  obtain ⟨-, z1, z2, ⟨t4, z4, z5⟩, ⟨t6, z6, z7⟩⟩ := (show pm_ZB A s s.heap from hst.2.2.2.2.2.2.2.2)
  rcases z2 with h9 | ⟨t, h9⟩
  · exact va_gets hx hb h9 hS hown (hts _ hl) (fun _ h => h) hd (k _ rfl p l e s m args below meth c A hO H locs cells slots ls hc hs hP hD hS hlv)
  · exact va_gets hx hb h9 hS hown (hts _ hl) (fun _ h => h) hd (k _ rfl p l e s m args below meth c A hO H locs cells slots ls hc hs hP hD hS hlv)
theorem gm_ones1 {ix a j : Nat} {x : Int32} (hj2 : j < 100) (hl : Cond.fieldLink (pm_R (pm_id mi)) ix RJ6 "DigitOnes" "[B" ∈ pm_good) (hd : decode (pm_cc mi) pc = .ok (.getstatic ix, 3)) (hlo : lo[a]? = some (some (.int x))) (hj : x = nI j) (d1 : decode (pm_cc mi) (pc + 3) = .ok (.iload a, 2)) (d2 : decode (pm_cc mi) (pc + 5) = .ok (.baload, 1)) (k : gm_V D tc mi P kc ks (pc + 6) lo (.int (nI (48 + j % 10)) :: st) ws) : gm_V D tc mi P kc ks pc lo st ws := by
  intro p l e s m args below meth c A hO H locs cells slots ls hc hs hP hD hS hlv
  obtain ⟨hx, hb, hml, hown, hts, hr, hlk, htr, hst, hA, hnm, htab⟩ := id hO
  obtain ⟨-, z1, z2, ⟨t4, z4, z5⟩, ⟨t6, z6, z7⟩⟩ := (show pm_ZB A s s.heap from hst.2.2.2.2.2.2.2.2)
  refine va_gets hx hb z4 hS hown (hts _ hl) (fun _ h => h) hd ?_
  refine lv_iload hx hb d1 (hlv.2.2 _ _ hlo) ?_
  show W _ _ _ _ _ _ _ _ _ _ _ _ _ _ _ (F0 m (pc + 5) ls (.int x :: _))
  subst hj
  exact va_tb hx hb z5 hS (vp_in_nI hj2 (by decide)) (by rw [nI_clamp (by omega)]) d2 (k p l e s m args below meth c A hO H locs cells slots ls hc hs hP hD hS hlv)
theorem gm_ones2 {ix a j : Nat} {x : Int32} (hj2 : j < 100) (hl : Cond.fieldLink (pm_R (pm_id mi)) ix RJ6 "DigitOnes" "[B" ∈ pm_good) (hd : decode (pm_cc mi) pc = .ok (.getstatic ix, 3)) {jj : Fin 4} (hjj : (jj : Nat) = a) (hlo : lo[a]? = some (some (.int x))) (hj : -x = nI j) (d1 : decode (pm_cc mi) (pc + 3) = .ok (.iload_n jj, 1)) (d2 : decode (pm_cc mi) (pc + 4) = .ok (.ineg, 1)) (d3 : decode (pm_cc mi) (pc + 5) = .ok (.baload, 1)) (k : gm_V D tc mi P kc ks (pc + 6) lo (.int (nI (48 + j % 10)) :: st) ws) : gm_V D tc mi P kc ks pc lo st ws := by
  intro p l e s m args below meth c A hO H locs cells slots ls hc hs hP hD hS hlv
  obtain ⟨hx, hb, hml, hown, hts, hr, hlk, htr, hst, hA, hnm, htab⟩ := id hO
  obtain ⟨-, z1, z2, ⟨t4, z4, z5⟩, ⟨t6, z6, z7⟩⟩ := (show pm_ZB A s s.heap from hst.2.2.2.2.2.2.2.2)
  refine va_gets hx hb z4 hS hown (hts _ hl) (fun _ h => h) hd ?_
  refine lv_iload_n hx hb d1 hjj (hlv.2.2 _ _ hlo) ?_
  refine lv_ineg hx hb d2 ?_
  show W _ _ _ _ _ _ _ _ _ _ _ _ _ _ _ (F0 m (pc + 5) ls (.int (-x) :: _))
  rw [hj]
  exact va_tb hx hb z5 hS (vp_in_nI hj2 (by decide)) (by rw [nI_clamp (by omega)]) d3 (k p l e s m args below meth c A hO H locs cells slots ls hc hs hP hD hS hlv)
theorem gm_tens1 {ix a j : Nat} {x : Int32} (hj2 : j < 100) (hl : Cond.fieldLink (pm_R (pm_id mi)) ix RJ6 "DigitTens" "[B" ∈ pm_good) (hd : decode (pm_cc mi) pc = .ok (.getstatic ix, 3)) (hlo : lo[a]? = some (some (.int x))) (hj : x = nI j) (d1 : decode (pm_cc mi) (pc + 3) = .ok (.iload a, 2)) (d2 : decode (pm_cc mi) (pc + 5) = .ok (.baload, 1)) (k : gm_V D tc mi P kc ks (pc + 6) lo (.int (nI (48 + j / 10)) :: st) ws) : gm_V D tc mi P kc ks pc lo st ws := by
  intro p l e s m args below meth c A hO H locs cells slots ls hc hs hP hD hS hlv
  obtain ⟨hx, hb, hml, hown, hts, hr, hlk, htr, hst, hA, hnm, htab⟩ := id hO
  obtain ⟨-, z1, z2, ⟨t4, z4, z5⟩, ⟨t6, z6, z7⟩⟩ := (show pm_ZB A s s.heap from hst.2.2.2.2.2.2.2.2)
  refine va_gets hx hb z6 hS hown (hts _ hl) (fun _ h => h) hd ?_
  refine lv_iload hx hb d1 (hlv.2.2 _ _ hlo) ?_
  show W _ _ _ _ _ _ _ _ _ _ _ _ _ _ _ (F0 m (pc + 5) ls (.int x :: _))
  subst hj
  exact va_tb hx hb z7 hS (vp_in_nI hj2 (by decide)) (by rw [nI_clamp (by omega)]) d2 (k p l e s m args below meth c A hO H locs cells slots ls hc hs hP hD hS hlv)
theorem gm_tens2 {ix a j : Nat} {x : Int32} (hj2 : j < 100) (hl : Cond.fieldLink (pm_R (pm_id mi)) ix RJ6 "DigitTens" "[B" ∈ pm_good) (hd : decode (pm_cc mi) pc = .ok (.getstatic ix, 3)) {jj : Fin 4} (hjj : (jj : Nat) = a) (hlo : lo[a]? = some (some (.int x))) (hj : -x = nI j) (d1 : decode (pm_cc mi) (pc + 3) = .ok (.iload_n jj, 1)) (d2 : decode (pm_cc mi) (pc + 4) = .ok (.ineg, 1)) (d3 : decode (pm_cc mi) (pc + 5) = .ok (.baload, 1)) (k : gm_V D tc mi P kc ks (pc + 6) lo (.int (nI (48 + j / 10)) :: st) ws) : gm_V D tc mi P kc ks pc lo st ws := by
  intro p l e s m args below meth c A hO H locs cells slots ls hc hs hP hD hS hlv
  obtain ⟨hx, hb, hml, hown, hts, hr, hlk, htr, hst, hA, hnm, htab⟩ := id hO
  obtain ⟨-, z1, z2, ⟨t4, z4, z5⟩, ⟨t6, z6, z7⟩⟩ := (show pm_ZB A s s.heap from hst.2.2.2.2.2.2.2.2)
  refine va_gets hx hb z6 hS hown (hts _ hl) (fun _ h => h) hd ?_
  refine lv_iload_n hx hb d1 hjj (hlv.2.2 _ _ hlo) ?_
  refine lv_ineg hx hb d2 ?_
  show W _ _ _ _ _ _ _ _ _ _ _ _ _ _ _ (F0 m (pc + 5) ls (.int (-x) :: _))
  rw [hj]
  exact va_tb hx hb z7 hS (vp_in_nI hj2 (by decide)) (by rw [nI_clamp (by omega)]) d3 (k p l e s m args below meth c A hO H locs cells slots ls hc hs hP hD hS hlv)
theorem gm_min {ix : Nat} {x y : Int32} (hl : Cond.methodLink (pm_R (pm_id mi)) ix Lib.Math.min.name ∈ pm_good) (hR : 1 ≤ (pm_rm mi).frames ∧ 21 ≤ (pm_rm mi).locals ∧ kc ≤ (pm_rm mi).cells ∧ ks ≤ (pm_rm mi).slots) (hW : (st.map fun v => v.category).sum ≤ 8) (hd : decode (pm_cc mi) pc = .ok (.invokestatic ix, 3)) (k : gm_V D tc mi P kc ks (pc + 3) lo (.int (if y < x then y else x) :: st) ws) : gm_V D tc mi P kc ks pc lo (.int y :: .int x :: st) ws := by
  intro p l e s m args below meth c A hO H locs cells slots ls hc hs hP hD hS hlv
  obtain ⟨hx, hb, hml, hown, hts, hr, hlk, htr, hst, hA, hnm, htab⟩ := id hO
  exact va_mmin hx hb (hml.trans hlv.1.symm) hown (hts _ hl) (hts _ gm_wmin1) (hts _ pm_wM2) (hts _ gm_wmin3) hR.1 (by omega) (Nat.le_trans hc hR.2.2.1) (Nat.le_trans hs hR.2.2.2) hd (k p l e s m args below meth c A hO H locs cells slots ls hc hs hP hD hS hlv)
theorem gm_max {ix : Nat} {x y : Int32} (hl : Cond.methodLink (pm_R (pm_id mi)) ix Lib.Math.max.name ∈ pm_good) (hR : 1 ≤ (pm_rm mi).frames ∧ 21 ≤ (pm_rm mi).locals ∧ kc ≤ (pm_rm mi).cells ∧ ks ≤ (pm_rm mi).slots) (hW : (st.map fun v => v.category).sum ≤ 8) (hd : decode (pm_cc mi) pc = .ok (.invokestatic ix, 3)) (k : gm_V D tc mi P kc ks (pc + 3) lo (.int (if x < y then y else x) :: st) ws) : gm_V D tc mi P kc ks pc lo (.int y :: .int x :: st) ws := by
  intro p l e s m args below meth c A hO H locs cells slots ls hc hs hP hD hS hlv
  obtain ⟨hx, hb, hml, hown, hts, hr, hlk, htr, hst, hA, hnm, htab⟩ := id hO
  exact va_mmax hx hb (hml.trans hlv.1.symm) hown (hts _ hl) (hts _ gm_wmax1) (hts _ pm_wM2) (hts _ gm_wmax3) hR.1 (by omega) (Nat.le_trans hc hR.2.2.1) (Nat.le_trans hs hR.2.2.2) hd (k p l e s m args below meth c A hO H locs cells slots ls hc hs hP hD hS hlv)
theorem gm_bcopy {ix a0 a n0 n1 : Nat} {f g : Nat → Int32} {n sp dp : Int32} (q0 q1 : Nat) (hl : Cond.methodLink (pm_R (pm_id mi)) ix arraycopyName ∈ pm_good) (h0 : ws[q0]? = some (a0, .inl (tc 5, n0, .inl f))) (h1 : ws[q1]? = some (a, .inl (tc 5, n1, .inl g))) (g1 : ¬ sp < 0) (g2 : ¬ dp < 0) (g3 : ¬ n < 0) (g4 : sp.toNatClampNeg + n.toNatClampNeg ≤ n0) (g5 : dp.toNatClampNeg + n.toNatClampNeg ≤ n1) (hf : sb_Fit f) (hR : 1 ≤ (pm_rm mi).frames ∧ 80 ≤ (pm_rm mi).locals) (hW : (st.map fun v => v.category).sum ≤ 8) (hd : decode (pm_cc mi) pc = .ok (.invokestatic ix, 3)) (k : gm_V D tc mi P kc ks (pc + 3) lo st (ws.set q1 (a, .inl (tc 5, n1, .inl (va_cpy f g sp.toNatClampNeg dp.toNatClampNeg n.toNatClampNeg))))) : gm_V D tc mi P kc ks pc lo (.int n :: .int dp :: .ref a :: .int sp :: .ref a0 :: st) ws := by
  intro p l e s m args below meth c A hO H locs cells slots ls hc hs hP hD hS hlv
  obtain ⟨hx, hb, hml, hown, hts, hr, hlk, htr, hst, hA, hnm, htab⟩ := id hO
  refine va_copyi (ty := .byte) hx hb (hml.trans hlv.1.symm) hown (hts _ hl) (hts _ pm_wA1) (hts _ pm_wA2) (hts _ pm_wA3) hst.1 hP hD hS q0 q1 5 5 h0 h1 rfl rfl rfl g1 g2 g3 g4 g5 (fun i _ => hf _) hR.1 ?_ hd (fun H2 locs2 hP2 hD2 hS2 => k p l e s m args below meth c A hO H2 locs2 cells slots ls hc hs hP2 hD2 hS2 hlv)
  have : nativeFrameWords "java/lang/System" "arraycopy" 5 + 11 ≤ 72 := by decide +kernel
  omega
theorem gm_objInit {ix a : Nat} (hl : Cond.methodLink (pm_R (pm_id mi)) ix Lib.objectInit ∈ pm_good) (hR : 1 ≤ (pm_rm mi).frames ∧ 21 ≤ (pm_rm mi).locals) (hW : (st.map fun v => v.category).sum ≤ 8) (hd : decode (pm_cc mi) pc = .ok (.invokespecial ix, 3)) (k : gm_V D tc mi P kc ks (pc + 3) lo st ws) : gm_V D tc mi P kc ks pc lo (.ref a :: st) ws := by
  intro p l e s m args below meth c A hO H locs cells slots ls hc hs hP hD hS hlv
  obtain ⟨hx, hb, hml, hown, hts, hr, hlk, htr, hst, hA, hnm, htab⟩ := id hO
  refine W.objInit hx hb hown (hts _ hl) (hts _ gm_wo1) (hts _ gm_wo2) rfl (hlv.1.trans hml.symm) rfl hd hR.1 ?_ (k p l e s m args below meth c A hO H locs cells slots ls hc hs hP hD hS hlv)
  show 2 * 0 + _ + 12 ≤ _
  omega
theorem gm_new {ix ci N : Nat} {C : String} {T : u_T} {fs : List Value} (ty : Nat → FieldType) (hcf : pm_CF ci) (hc0 : pm_cl[ci]? = some (C, T, N)) (hty : ∀ k, k < N → parseFieldDescriptor (T k).2.2.1 = some (ty k)) (hl : Cond.classLink (pm_R (pm_id mi)) ix C ∈ pm_good) (hi : Cond.instantiable C N ∈ pm_good) (hn : Cond.initialized C ∈ pm_good) (hfs : ∀ j, j < N → defaultValue (ty j) = vp_V fs j) (hkc : kc + 1 ≤ (pm_rm mi).cells) (hks : ks + N ≤ (pm_rm mi).slots) (hd : decode (pm_cc mi) pc = .ok (.new ix, 3))
    (k : ∀ q, gm_V D tc mi P (kc + 1) (ks + N) (pc + 3) lo (.ref q :: st) (ws ++ [(q, .inr (ci, fs))])) : gm_V D tc mi P kc ks pc lo st ws := by
  intro p l e s m args below meth c A hO H locs cells slots ls hc hs hP hD hS hlv
  obtain ⟨hx, hb, hml, hown, hts, hr, hlk, htr, hst, hA, hnm, htab⟩ := id hO
  obtain ⟨hin, -⟩ := gm_cfx hcf hc0
  exact va_new hx hb hts hin ty hty hown (hts _ hl) (hts _ hi) (hts _ hn) hst.1 hP hD hS hA hc0 hfs (by omega) (by omega) hd (fun q H2 hP2 hD2 hS2 => k q p l e s m args below meth c A hO H2 locs (cells + 1) (slots + N) ls (Nat.add_le_add_right hc _) (Nat.add_le_add_right hs _) hP2 hD2 hS2 hlv)
theorem gm_newa_int {n : Int32} {N : Nat} (hn : ¬ n < 0) (hN : n.toNatClampNeg = N) (hbig : N ≤ 65536) (hkc : kc + 1 ≤ (pm_rm mi).cells) (hks : ks + N ≤ (pm_rm mi).slots) (hd : decode (pm_cc mi) pc = .ok (.newarray .int, 2))
    (k : ∀ q, gm_V D tc mi P (kc + 1) (ks + N) (pc + 2) lo (.ref q :: st) (ws ++ [(q, .inl (tc 0, N, .inl (fun _ => 0)))])) : gm_V D tc mi P kc ks pc lo (.int n :: st) ws := by
  intro p l e s m args below meth c A hO H locs cells slots ls hc hs hP hD hS hlv
  obtain ⟨hx, hb, hml, hown, hts, hr, hlk, htr, hst, hA, hnm, htab⟩ := id hO
  refine va_newa (atype := .int) (ty := .int) (a0 := (N, .inl (fun _ => 0))) hx hb (hts _ gm_wa_int) rfl hst.1 hP hD hS hA (fun cA => rfl) hn hN (by show N * 4 ≤ _; omega) (by omega) (by omega) hd (fun q cA H2 hK2 hP2 hD2 hS2 => ?_)
  have e1 : s.vm.findClass ("[" ++ (.int : FieldType).toString) = some cA := (hK2.2 6 (cA, .int) rfl).2
  have e2 : s.vm.findClass ("[" ++ (.int : FieldType).toString) = some (tc 0) := (hst.1.2 0 (tc 0, .int) rfl).2
  cases Option.some.inj (e1.symm.trans e2)
  exact k q p l e s m args below meth c A hO H2 locs (cells + 1) (slots + N) ls (Nat.add_le_add_right hc _) (Nat.add_le_add_right hs _) hP2 hD2 hS2 hlv
theorem gm_newa_char {n : Int32} {N : Nat} (hn : ¬ n < 0) (hN : n.toNatClampNeg = N) (hbig : N ≤ 65536) (hkc : kc + 1 ≤ (pm_rm mi).cells) (hks : ks + N ≤ (pm_rm mi).slots) (hd : decode (pm_cc mi) pc = .ok (.newarray .char, 2))
    (k : ∀ q, gm_V D tc mi P (kc + 1) (ks + N) (pc + 2) lo (.ref q :: st) (ws ++ [(q, .inl (tc 1, N, .inl (fun _ => 0)))])) : gm_V D tc mi P kc ks pc lo (.int n :: st) ws := by
  intro p l e s m args below meth c A hO H locs cells slots ls hc hs hP hD hS hlv
  obtain ⟨hx, hb, hml, hown, hts, hr, hlk, htr, hst, hA, hnm, htab⟩ := id hO
  refine va_newa (atype := .char) (ty := .char) (a0 := (N, .inl (fun _ => 0))) hx hb (hts _ gm_wa_char) rfl hst.1 hP hD hS hA (fun cA => rfl) hn hN (by show N * 2 ≤ _; omega) (by omega) (by omega) hd (fun q cA H2 hK2 hP2 hD2 hS2 => ?_)
  have e1 : s.vm.findClass ("[" ++ (.char : FieldType).toString) = some cA := (hK2.2 6 (cA, .char) rfl).2
  have e2 : s.vm.findClass ("[" ++ (.char : FieldType).toString) = some (tc 1) := (hst.1.2 1 (tc 1, .char) rfl).2
  cases Option.some.inj (e1.symm.trans e2)
  exact k q p l e s m args below meth c A hO H2 locs (cells + 1) (slots + N) ls (Nat.add_le_add_right hc _) (Nat.add_le_add_right hs _) hP2 hD2 hS2 hlv
theorem gm_newa_byte {n : Int32} {N : Nat} (hn : ¬ n < 0) (hN : n.toNatClampNeg = N) (hbig : N ≤ 65536) (hkc : kc + 1 ≤ (pm_rm mi).cells) (hks : ks + N ≤ (pm_rm mi).slots) (hd : decode (pm_cc mi) pc = .ok (.newarray .byte, 2))
    (k : ∀ q, gm_V D tc mi P (kc + 1) (ks + N) (pc + 2) lo (.ref q :: st) (ws ++ [(q, .inl (tc 5, N, .inl (fun _ => 0)))])) : gm_V D tc mi P kc ks pc lo (.int n :: st) ws := by
  intro p l e s m args below meth c A hO H locs cells slots ls hc hs hP hD hS hlv
  obtain ⟨hx, hb, hml, hown, hts, hr, hlk, htr, hst, hA, hnm, htab⟩ := id hO
  refine va_newa (atype := .byte) (ty := .byte) (a0 := (N, .inl (fun _ => 0))) hx hb (hts _ gm_wa_byte) rfl hst.1 hP hD hS hA (fun cA => rfl) hn hN (by show N * 1 ≤ _; omega) (by omega) (by omega) hd (fun q cA H2 hK2 hP2 hD2 hS2 => ?_)
  have e1 : s.vm.findClass ("[" ++ (.byte : FieldType).toString) = some cA := (hK2.2 6 (cA, .byte) rfl).2
  have e2 : s.vm.findClass ("[" ++ (.byte : FieldType).toString) = some (tc 5) := (hst.1.2 5 (tc 5, .byte) rfl).2
  cases Option.some.inj (e1.symm.trans e2)
  exact k q p l e s m args below meth c A hO H2 locs (cells + 1) (slots + N) ls (Nat.add_le_add_right hc _) (Nat.add_le_add_right hs _) hP2 hD2 hS2 hlv
theorem gm_newa_long {n : Int32} {N : Nat} (hn : ¬ n < 0) (hN : n.toNatClampNeg = N) (hbig : N ≤ 65536) (hkc : kc + 1 ≤ (pm_rm mi).cells) (hks : ks + N ≤ (pm_rm mi).slots) (hd : decode (pm_cc mi) pc = .ok (.newarray .long, 2))
    (k : ∀ q, gm_V D tc mi P (kc + 1) (ks + N) (pc + 2) lo (.ref q :: st) (ws ++ [(q, .inl (tc 2, N, .inr (.inl (fun _ => 0))))])) : gm_V D tc mi P kc ks pc lo (.int n :: st) ws := by
  intro p l e s m args below meth c A hO H locs cells slots ls hc hs hP hD hS hlv
  obtain ⟨hx, hb, hml, hown, hts, hr, hlk, htr, hst, hA, hnm, htab⟩ := id hO
  refine va_newa (atype := .long) (ty := .long) (a0 := (N, .inr (.inl (fun _ => 0)))) hx hb (hts _ gm_wa_long) rfl hst.1 hP hD hS hA (fun cA => rfl) hn hN (by show N * 8 ≤ _; omega) (by omega) (by omega) hd (fun q cA H2 hK2 hP2 hD2 hS2 => ?_)
  have e1 : s.vm.findClass ("[" ++ (.long : FieldType).toString) = some cA := (hK2.2 6 (cA, .long) rfl).2
  have e2 : s.vm.findClass ("[" ++ (.long : FieldType).toString) = some (tc 2) := (hst.1.2 2 (tc 2, .long) rfl).2
  cases Option.some.inj (e1.symm.trans e2)
  exact k q p l e s m args below meth c A hO H2 locs (cells + 1) (slots + N) ls (Nat.add_le_add_right hc _) (Nat.add_le_add_right hs _) hP2 hD2 hS2 hlv
theorem gm_newa_double {n : Int32} {N : Nat} (hn : ¬ n < 0) (hN : n.toNatClampNeg = N) (hbig : N ≤ 65536) (hkc : kc + 1 ≤ (pm_rm mi).cells) (hks : ks + N ≤ (pm_rm mi).slots) (hd : decode (pm_cc mi) pc = .ok (.newarray .double, 2))
    (k : ∀ q, gm_V D tc mi P (kc + 1) (ks + N) (pc + 2) lo (.ref q :: st) (ws ++ [(q, .inl (tc 3, N, .inr (.inr (.inr (.inl (fun _ => 0))))))])) : gm_V D tc mi P kc ks pc lo (.int n :: st) ws := by
  intro p l e s m args below meth c A hO H locs cells slots ls hc hs hP hD hS hlv
  obtain ⟨hx, hb, hml, hown, hts, hr, hlk, htr, hst, hA, hnm, htab⟩ := id hO
  refine va_newa (atype := .double) (ty := .double) (a0 := (N, .inr (.inr (.inr (.inl (fun _ => 0)))))) hx hb (hts _ gm_wa_double) rfl hst.1 hP hD hS hA (fun cA => rfl) hn hN (by show N * 8 ≤ _; omega) (by omega) (by omega) hd (fun q cA H2 hK2 hP2 hD2 hS2 => ?_)
  have e1 : s.vm.findClass ("[" ++ (.double : FieldType).toString) = some cA := (hK2.2 6 (cA, .double) rfl).2
  have e2 : s.vm.findClass ("[" ++ (.double : FieldType).toString) = some (tc 3) := (hst.1.2 3 (tc 3, .double) rfl).2
  cases Option.some.inj (e1.symm.trans e2)
  exact k q p l e s m args below meth c A hO H2 locs (cells + 1) (slots + N) ls (Nat.add_le_add_right hc _) (Nat.add_le_add_right hs _) hP2 hD2 hS2 hlv
theorem gm_newq {ix : Nat} {n : Int32} {N : Nat} (hl : Cond.classLink (pm_R (pm_id mi)) ix RX5 ∈ pm_good) (hn : ¬ n < 0) (hN : n.toNatClampNeg = N) (hbig : N ≤ 65536) (hkc : kc + 1 ≤ (pm_rm mi).cells) (hks : ks + N ≤ (pm_rm mi).slots) (hd : decode (pm_cc mi) pc = .ok (.anewarray ix, 3))
    (k : ∀ q, gm_V D tc mi P (kc + 1) (ks + N) (pc + 3) lo (.ref q :: st) (ws ++ [(q, .inl (tc 4, N, .inr (.inr (.inr (.inr (fun _ => none))))))])) : gm_V D tc mi P kc ks pc lo (.int n :: st) ws := by
  intro p l e s m args below meth c A hO H locs cells slots ls hc hs hP hD hS hlv
  obtain ⟨hx, hb, hml, hown, hts, hr, hlk, htr, hst, hA, hnm, htab⟩ := id hO
  obtain ⟨z0, -⟩ := (show pm_ZB A s s.heap from hst.2.2.2.2.2.2.2.2)
  refine va_newq hx hb hown (hts _ hl) z0 hst.1 hP hD hS hA hn hN (by omega) (by omega) (by omega) hd (fun q cA H2 hK2 hP2 hD2 hS2 => ?_)
  obtain ⟨-, k1, k2, -, -, -, e1⟩ := hK2.2 6 (cA, .object RX5) rfl
  obtain ⟨-, k3, k4, -, -, -, e2⟩ := hst.1.2 4 (tc 4, .object RX5) rfl
  cases Option.some.inj (e1.symm.trans e2)
  exact k q p l e s m args below meth c A hO H2 locs (cells + 1) (slots + N) ls (Nat.add_le_add_right hc _) (Nat.add_le_add_right hs _) hP2 hD2 hS2 hlv
theorem gm_astq {a n ci u : Nat} {f : Nat → Option Nat} {vs : List Value} {T : u_T} {N : Nat} {i : Int32} (q0 qk : Nat) (ha : ws[q0]? = some (a, .inl (tc 4, n, .inr (.inr (.inr (.inr f)))))) (hv : ws[qk]? = some (u, .inr (ci, vs))) (hc0 : pm_cl[ci]? = some (RX5, T, N)) (hin : vp_in i n) (hd : decode (pm_cc mi) pc = .ok (.aastore, 1)) (k : gm_V D tc mi P kc ks (pc + 1) lo st (ws.set q0 (a, .inl (tc 4, n, .inr (.inr (.inr (.inr (va_up f i.toNatClampNeg (some u))))))))) : gm_V D tc mi P kc ks pc lo (.ref u :: .int i :: .ref a :: st) ws := by
  intro p l e s m args below meth c A hO H locs cells slots ls hc hs hP hD hS hlv
  obtain ⟨hx, hb, hml, hown, hts, hr, hlk, htr, hst, hA, hnm, htab⟩ := id hO
  exact va_astq hx hb hst.1 hP hD hS q0 4 qk ci ha rfl hv hc0 hin hd (fun H2 locs2 hP2 hD2 hS2 => k p l e s m args below meth c A hO H2 locs2 cells slots ls hc hs hP2 hD2 hS2 hlv)
theorem gm_iret {v : Int32} {ty : FieldType} (hrt : pm_rt mi = some ty) (hn : narrow ty (.int v) = .int v) (hkc : kc ≤ (pm_rm mi).cells) (hks : ks ≤ (pm_rm mi).slots) (hd : decode (pm_cc mi) pc = .ok (.ireturn, 1)) (hq : P (some (.int v)) ws) : gm_V D tc mi P kc ks pc lo [.int v] ws := by
  intro p l e s m args below meth c A hO H locs cells slots ls hc hs hP hD hS hlv
  obtain ⟨hx, hb, hml, hown, hts, hr, hlk, htr, hst, hA, hnm, htab⟩ := id hO
  refine W.widen (k := (pm_rm mi).cells) (n := (pm_rm mi).slots) (Nat.le_trans hc hkc) (Nat.le_trans hs hks) ?_
  exact W.zret (v := v) hx hb (hr.trans hrt) hn (fun t ht _ => ⟨⟨some (.int v), ws, rfl, hq, by rw [ht]; exact hP, hD⟩, hS.F ht⟩) hS.2.2 hd hlk
theorem gm_vret (hrt : pm_rt mi = none) (hkc : kc ≤ (pm_rm mi).cells) (hks : ks ≤ (pm_rm mi).slots) (hd : decode (pm_cc mi) pc = .ok (.return_, 1)) (hq : P none ws) : gm_V D tc mi P kc ks pc lo [] ws := by
  intro p l e s m args below meth c A hO H locs cells slots ls hc hs hP hD hS hlv
  obtain ⟨hx, hb, hml, hown, hts, hr, hlk, htr, hst, hA, hnm, htab⟩ := id hO
  refine W.widen (k := (pm_rm mi).cells) (n := (pm_rm mi).slots) (Nat.le_trans hc hkc) (Nat.le_trans hs hks) ?_
  exact W.vret hx hb (hr.trans hrt) (fun t ht _ => ⟨⟨none, ws, rfl, hq, by rw [ht]; exact hP, hD⟩, hS.F ht⟩) hS.2.2 hd hlk
theorem gm_aret {a : Nat} {ty : FieldType} (hrt : pm_rt mi = some ty) (hn : (∃ n, ty = .object n) ∨ ∃ t, ty = .array t) (hkc : kc ≤ (pm_rm mi).cells) (hks : ks ≤ (pm_rm mi).slots) (hd : decode (pm_cc mi) pc = .ok (.areturn, 1)) (hq : P (some (.ref a)) ws) : gm_V D tc mi P kc ks pc lo [.ref a] ws := by
  intro p l e s m args below meth c A hO H locs cells slots ls hc hs hP hD hS hlv
  obtain ⟨hx, hb, hml, hown, hts, hr, hlk, htr, hst, hA, hnm, htab⟩ := id hO
  refine W.widen (k := (pm_rm mi).cells) (n := (pm_rm mi).slots) (Nat.le_trans hc hkc) (Nat.le_trans hs hks) ?_
  exact W.aret (v := .ref a) hx hb (hr.trans hrt) hn (Or.inr ⟨a, rfl⟩) (fun t ht _ => ⟨⟨some (.ref a), ws, rfl, hq, by rw [ht]; exact hP, hD⟩, hS.F ht⟩) hS.2.2 hd hlk
/-- a static method -/
theorem gm_callS (mi2 : pm_Mi) {ix n kc2 ks2 : Nat} {As rest : List Value} {wc wr : va_W} {P2 : Option Value → va_W → Prop} (hM : gm_CT D tc mi2 As wc P2) (hw : ws = wc ++ wr) (hcal : pm_Cal mi2 n) (hsta : Cond.static (pm_y mi2) ∈ pm_good) (hl : Cond.methodLink (pm_R (pm_id mi)) ix (pm_y mi2) ∈ pm_good) (hf : pm_fit mi mi2 kc ks = true) (hd : decode (pm_cc mi) pc = .ok (.invokestatic ix, 3)) (hn : As.length = n) (hst0 : st = As.reverse ++ rest) (hW : (rest.map fun v => v.category).sum ≤ 8) (g1 : kc + (pm_rm mi2).cells ≤ kc2) (g2 : ks + (pm_rm mi2).slots ≤ ks2) (k : ∀ v w1, P2 v w1 → gm_V D tc mi P kc2 ks2 (pc + 3) lo (v.toList ++ rest) (w1 ++ wr)) : gm_V D tc mi P kc ks pc lo st ws := by
  intro p l e s m args below meth c A hO H locs cells slots ls hc hs hP hD hS hlv
  obtain ⟨hx, hb, hml, hown, hts, hr, hlk, htr, hst, hA, hnm, htab⟩ := id hO
  subst hw
  subst hst0
  have hf2 := hf
  simp only [pm_fit, Bool.and_eq_true, decide_eq_true_eq] at hf2
  have hsub := gm_sub rfl hD hS hA
  have hPc : va_P D pm_cl wc H := gm_P_mem hP (fun q hq => List.mem_append_left _ hq)
  have hDc : va_D A wc := gm_D_left hD
  have hcb := pm_callB (mi := mi) (kc := kc) (ks := ks) hts hcal hl hf
  have hrun := va_runS (Ts := pm_good) (own := pm_R (pm_id mi)) (As := As) (rest := rest) (g := F0 m pc ls (As.reverse ++ rest)) (H := H) (locs := locs) (cells := cells) (slots := slots) (e := e) (below := below) (meth := meth)
    ⟨hx, hb, hml, hown, hts⟩ (hM l H.size htr) ⟨hcb, hts _ hsta⟩ ⟨gm_Pc_blind, fun U hU hW9 => ⟨rfl, by rw [hU], by rw [hU]; exact hPc, hDc.weaken (fun _ _ _ _ => trivial), hst.go hW9 hU hS hsub⟩⟩ rfl hn hlv.1 rfl (by simpa [JFrame.monitorRoom] using hW) hd ⟨Nat.le_trans (Nat.add_le_add_right hc _) hf2.2.2.1, Nat.le_trans (Nat.add_le_add_right hs _) hf2.2.2.2⟩
  intro T0 hT0 X0
  obtain ⟨v, st₀, t, T', L, h0, X', hL, e1, e2, ⟨⟨v', w1, hv, hp, hP2, hD2⟩, hF⟩, stp⟩ := hrun T0 hT0 X0
  have hv2 : v = v' := by injection hv
  subst hv2
  obtain ⟨k1, k2, k3⟩ := vx_keep h0 e1 hS (fun q _ h => hsub q h) hsub hL hF
  obtain ⟨j1, j2⟩ := gm_join hP hD k2 hsub (by rw [e1]; exact hP2) hD2
  obtain ⟨t2, a1, b1⟩ := k v w1 hp p l e s m args below meth c A hO T'.heap (locs ++ L) _ _ ls (Nat.le_trans (Nat.add_le_add_right hc _) g1) (Nat.le_trans (Nat.add_le_add_right hs _) g2) j1 j2 k3 hlv T' rfl X'
  exact ⟨t2, stp t2 a1, b1⟩
/-- a constructor -/
theorem gm_callI (mi2 : pm_Mi) {ix n kc2 ks2 : Nat} {As rest : List Value} {wc wr : va_W} {P2 : Option Value → va_W → Prop} {b : Nat} (hM : gm_CT D tc mi2 (.ref b :: As) wc P2) (hw : ws = wc ++ wr) (hcal : pm_Cal mi2 n) (hi : Cond.instanceMethod (pm_y mi2) ∈ pm_good) (hin : (pm_y mi2).name = "<init>") (hrt : pm_rt mi2 = none) (hl : Cond.methodLink (pm_R (pm_id mi)) ix (pm_y mi2) ∈ pm_good) (hf : pm_fit mi mi2 kc ks = true) (hd : decode (pm_cc mi) pc = .ok (.invokespecial ix, 3)) (hn : As.length = n) (hst0 : st = As.reverse ++ .ref b :: rest) (hW : (rest.map fun v => v.category).sum ≤ 8) (g1 : kc + (pm_rm mi2).cells ≤ kc2) (g2 : ks + (pm_rm mi2).slots ≤ ks2) (k : ∀ v w1, P2 v w1 → gm_V D tc mi P kc2 ks2 (pc + 3) lo (v.toList ++ rest) (w1 ++ wr)) : gm_V D tc mi P kc ks pc lo st ws := by
  intro p l e s m args below meth c A hO H locs cells slots ls hc hs hP hD hS hlv
  obtain ⟨hx, hb, hml, hown, hts, hr, hlk, htr, hst, hA, hnm, htab⟩ := id hO
  subst hw
  subst hst0
  have hf2 := hf
  simp only [pm_fit, Bool.and_eq_true, decide_eq_true_eq] at hf2
  have hsub := gm_sub rfl hD hS hA
  have hPc : va_P D pm_cl wc H := gm_P_mem hP (fun q hq => List.mem_append_left _ hq)
  have hDc : va_D A wc := gm_D_left hD
  have hcb := pm_callB (mi := mi) (kc := kc) (ks := ks) hts hcal hl hf
  rw [hrt] at hcb
  have hrun := va_runI (Ts := pm_good) (own := pm_R (pm_id mi)) (As := As) (b := b) (rest := rest) (g := F0 m pc ls (As.reverse ++ .ref b :: rest)) (H := H) (locs := locs) (cells := cells) (slots := slots) (e := e) (below := below) (meth := meth)
    ⟨hx, hb, hml, hown, hts⟩ (hM l H.size htr) ⟨hcb, hin, hts _ hi⟩ ⟨gm_Pc_blind, fun U hU hW9 => ⟨rfl, by rw [hU], by rw [hU]; exact hPc, hDc.weaken (fun _ _ _ _ => trivial), hst.go hW9 hU hS hsub⟩⟩ rfl hn hlv.1 rfl (by simpa [JFrame.monitorRoom] using hW) hd ⟨Nat.le_trans (Nat.add_le_add_right hc _) hf2.2.2.1, Nat.le_trans (Nat.add_le_add_right hs _) hf2.2.2.2⟩
  intro T0 hT0 X0
  obtain ⟨v, st₀, t, T', L, h0, X', hL, e1, e2, ⟨⟨v', w1, hv, hp, hP2, hD2⟩, hF⟩, stp⟩ := hrun T0 hT0 X0
  have hv2 : v = v' := by injection hv
  subst hv2
  obtain ⟨k1, k2, k3⟩ := vx_keep h0 e1 hS (fun q _ h => hsub q h) hsub hL hF
  obtain ⟨j1, j2⟩ := gm_join hP hD k2 hsub (by rw [e1]; exact hP2) hD2
  obtain ⟨t2, a1, b1⟩ := k v w1 hp p l e s m args below meth c A hO T'.heap (locs ++ L) _ _ ls (Nat.le_trans (Nat.add_le_add_right hc _) g1) (Nat.le_trans (Nat.add_le_add_right hs _) g2) j1 j2 k3 hlv T' rfl X'
  exact ⟨t2, stp t2 a1, b1⟩
/-- a private constructor of a nest mate -/
theorem gm_callIN (mi2 : pm_Mi) {ix n kc2 ks2 : Nat} {As rest : List Value} {wc wr : va_W} {P2 : Option Value → va_W → Prop} {b : Nat} {host : String} (hM : gm_CT D tc mi2 (.ref b :: As) wc P2) (hw : ws = wc ++ wr) (hcal : pm_Cal mi2 n) (hi : Cond.instanceMethod (pm_y mi2) ∈ pm_good) (hin : (pm_y mi2).name = "<init>") (hrt : pm_rt mi2 = none) (hl : (pm_R (pm_id mi), ix, pm_y mi2, host) ∈ pm_nwl) (hf : pm_fit mi mi2 kc ks = true) (hd : decode (pm_cc mi) pc = .ok (.invokespecial ix, 3)) (hn : As.length = n) (hst0 : st = As.reverse ++ .ref b :: rest) (hW : (rest.map fun v => v.category).sum ≤ 8) (g1 : kc + (pm_rm mi2).cells ≤ kc2) (g2 : ks + (pm_rm mi2).slots ≤ ks2) (k : ∀ v w1, P2 v w1 → gm_V D tc mi P kc2 ks2 (pc + 3) lo (v.toList ++ rest) (w1 ++ wr)) : gm_V D tc mi P kc ks pc lo st ws := by
  intro p l e s m args below meth c A hO H locs cells slots ls hc hs hP hD hS hlv
  obtain ⟨hx, hb, hml, hown, hts, hr, hlk, htr, hst, hA, hnm, htab⟩ := id hO
  subst hw
  subst hst0
  have hf2 := hf
  simp only [pm_fit, Bool.and_eq_true, decide_eq_true_eq] at hf2
  have hsub := gm_sub rfl hD hS hA
  have hPc : va_P D pm_cl wc H := gm_P_mem hP (fun q hq => List.mem_append_left _ hq)
  have hDc : va_D A wc := gm_D_left hD
  have hcn : va_CN (pm_rm mi) s args (pm_R (pm_id mi)) ix (pm_y mi2) host (pm_cc mi2) (pm_nL mi2) (pm_rt mi2) (pm_wsy mi2) (pm_rm mi2) (pm_rm mi2).cells (pm_rm mi2).slots n :=
    va_cnB (Ts := pm_good) (ws' := pm_good) n hts (pm_wsy_good hcal) (by unfold pm_wsy; rw [hcal.2.2.1]; rfl) rfl rfl (hst.2.1 _ hl) (hts _ hcal.2.1) hcal.2.2.2 ⟨hf2.1, hf2.2.1⟩
  rw [hrt] at hcn
  have hrun := va_runIN (Ts := pm_good) (own := pm_R (pm_id mi)) (As := As) (b := b) (rest := rest) (g := F0 m pc ls (As.reverse ++ .ref b :: rest)) (H := H) (locs := locs) (cells := cells) (slots := slots) (e := e) (below := below) (meth := meth)
    ⟨hx, hb, hml, hown, hts⟩ (hM l H.size htr) ⟨hcn, hin, hts _ hi⟩ ⟨gm_Pc_blind, fun U hU hW9 => ⟨rfl, by rw [hU], by rw [hU]; exact hPc, hDc.weaken (fun _ _ _ _ => trivial), hst.go hW9 hU hS hsub⟩⟩ rfl hn hlv.1 rfl (by simpa [JFrame.monitorRoom] using hW) hd ⟨Nat.le_trans (Nat.add_le_add_right hc _) hf2.2.2.1, Nat.le_trans (Nat.add_le_add_right hs _) hf2.2.2.2⟩
  intro T0 hT0 X0
  obtain ⟨v, st₀, t, T', L, h0, X', hL, e1, e2, ⟨⟨v', w1, hv, hp, hP2, hD2⟩, hF⟩, stp⟩ := hrun T0 hT0 X0
  have hv2 : v = v' := by injection hv
  subst hv2
  obtain ⟨k1, k2, k3⟩ := vx_keep h0 e1 hS (fun q _ h => hsub q h) hsub hL hF
  obtain ⟨j1, j2⟩ := gm_join hP hD k2 hsub (by rw [e1]; exact hP2) hD2
  obtain ⟨t2, a1, b1⟩ := k v w1 hp p l e s m args below meth c A hO T'.heap (locs ++ L) _ _ ls (Nat.le_trans (Nat.add_le_add_right hc _) g1) (Nat.le_trans (Nat.add_le_add_right hs _) g2) j1 j2 k3 hlv T' rfl X'
  exact ⟨t2, stp t2 a1, b1⟩
/-- the method of the class above -/
theorem gm_callSU (mi2 : pm_Mi) {ix n kc2 ks2 : Nat} {As rest : List Value} {wc wr : va_W} {P2 : Option Value → va_W → Prop} {b : Nat} (hM : gm_CT D tc mi2 (.ref b :: As) wc P2) {q0 ci N : Nat} {C : String} {T : u_T} {fs : List Value} (hc0 : pm_cl[ci]? = some (C, T, N)) (he : wc[q0]? = some (b, .inr (ci, fs))) (hw : ws = wc ++ wr) (hcal : pm_Cal mi2 n) (hi : Cond.instanceMethod (pm_y mi2) ∈ pm_good) (hsa : Cond.sameMethod (pm_y mi2).cls (pm_y mi2).cls (pm_y mi2).name (pm_y mi2).desc ∈ pm_good) (hsu : Cond.superclass (pm_R (pm_id mi)) (pm_y mi2).cls ∈ pm_good) (hne : (pm_y mi2).name ≠ "<init>") (hl : Cond.methodLink (pm_R (pm_id mi)) ix (pm_y mi2) ∈ pm_good) (hf : pm_fit mi mi2 kc ks = true) (hd : decode (pm_cc mi) pc = .ok (.invokespecial ix, 3)) (hn : As.length = n) (hst0 : st = As.reverse ++ .ref b :: rest) (hW : (rest.map fun v => v.category).sum ≤ 8) (g1 : kc + (pm_rm mi2).cells ≤ kc2) (g2 : ks + (pm_rm mi2).slots ≤ ks2) (k : ∀ v w1, P2 v w1 → gm_V D tc mi P kc2 ks2 (pc + 3) lo (v.toList ++ rest) (w1 ++ wr)) : gm_V D tc mi P kc ks pc lo st ws := by
  intro p l e s m args below meth c A hO H locs cells slots ls hc hs hP hD hS hlv
  obtain ⟨hx, hb, hml, hown, hts, hr, hlk, htr, hst, hA, hnm, htab⟩ := id hO
  subst hw
  subst hst0
  have hf2 := hf
  simp only [pm_fit, Bool.and_eq_true, decide_eq_true_eq] at hf2
  have hsub := gm_sub rfl hD hS hA
  have hPc : va_P D pm_cl wc H := gm_P_mem hP (fun q hq => List.mem_append_left _ hq)
  have hDc : va_D A wc := gm_D_left hD
  have hgi : GoodIn pm_good (va_wsSU (pm_R (pm_id mi)) ix (pm_y mi2) (pm_wsy mi2)) := by
    intro w hw
    unfold va_wsSU at hw
    simp only [List.cons_append, List.nil_append, List.mem_cons] at hw
    rcases hw with rfl | rfl | rfl | rfl | rfl | hw
    · exact pm_good_self _ hl
    · exact pm_good_self _ hsa
    · exact pm_good_self _ hsu
    · exact pm_good_self _ hi
    · exact pm_good_self _ hcal.2.1
    · exact pm_wsy_good hcal _ hw
  have hcs := va_cwSU (s := s) (args := args) (R := pm_rm mi) (own := pm_R (pm_id mi)) (index := ix) (mc := (pm_rm mi2).cells) (ms := (pm_rm mi2).slots) (rm := pm_rm mi2) (ws' := pm_good) (bytes := pm_cc mi2) (maxL := pm_nL mi2) (ret := pm_rt mi2) n hts hgi (by unfold pm_wsy; rw [hcal.2.2.1]; rfl) rfl rfl ⟨hne, hcal.2.2.2.2.2⟩ ⟨hf2.1, hf2.2.1⟩
  have hrun := va_runSU (Ts := pm_good) (own := pm_R (pm_id mi)) (As := As) (b := b) (rest := rest) (g := F0 m pc ls (As.reverse ++ .ref b :: rest)) (H := H) (locs := locs) (cells := cells) (slots := slots) (e := e) (below := below) (meth := meth)
    (hst.1.1 ci _ hc0).2 ⟨hx, hb, hml, hown, hts⟩ (hM l H.size htr) hcs ⟨gm_Pc_blind, va_recv hst.1 hPc hc0 he, fun U hU hW9 => ⟨rfl, by rw [hU], by rw [hU]; exact hPc, hDc.weaken (fun _ _ _ _ => trivial), hst.go hW9 hU hS hsub⟩⟩ rfl hn hlv.1 rfl (by simpa [JFrame.monitorRoom] using hW) hd ⟨Nat.le_trans (Nat.add_le_add_right hc _) hf2.2.2.1, Nat.le_trans (Nat.add_le_add_right hs _) hf2.2.2.2⟩
  intro T0 hT0 X0
  obtain ⟨v, st₀, t, T', L, h0, X', hL, e1, e2, ⟨⟨v', w1, hv, hp, hP2, hD2⟩, hF⟩, stp⟩ := hrun T0 hT0 X0
  have hv2 : v = v' := by injection hv
  subst hv2
  obtain ⟨k1, k2, k3⟩ := vx_keep h0 e1 hS (fun q _ h => hsub q h) hsub hL hF
  obtain ⟨j1, j2⟩ := gm_join hP hD k2 hsub (by rw [e1]; exact hP2) hD2
  obtain ⟨t2, a1, b1⟩ := k v w1 hp p l e s m args below meth c A hO T'.heap (locs ++ L) _ _ ls (Nat.le_trans (Nat.add_le_add_right hc _) g1) (Nat.le_trans (Nat.add_le_add_right hs _) g2) j1 j2 k3 hlv T' rfl X'
  exact ⟨t2, stp t2 a1, b1⟩
/-- a method that the class has from above -/
theorem gm_callU (mi2 : pm_Mi) {ix n kc2 ks2 : Nat} {As rest : List Value} {wc wr : va_W} {P2 : Option Value → va_W → Prop} {b : Nat} (hM : gm_CT D tc mi2 (.ref b :: As) wc P2) {q0 ci N : Nat} {C : String} {T : u_T} {fs : List Value} (hc0 : pm_cl[ci]? = some (C, T, N)) (he : wc[q0]? = some (b, .inr (ci, fs))) (hw : ws = wc ++ wr) (hcal : pm_Cal mi2 n) (hi : Cond.instanceMethod (pm_y mi2) ∈ pm_good) (hsa : Cond.sameMethod (pm_y mi2).cls (pm_y mi2).cls (pm_y mi2).name (pm_y mi2).desc ∈ pm_good) (hse : Cond.selects C (pm_y mi2) (pm_y mi2) ∈ pm_good) (hl : Cond.methodLink (pm_R (pm_id mi)) ix (pm_y mi2) ∈ pm_good) (hf : pm_fit mi mi2 kc ks = true) (hd : decode (pm_cc mi) pc = .ok (.invokevirtual ix, 3)) (hn : As.length = n) (hst0 : st = As.reverse ++ .ref b :: rest) (hW : (rest.map fun v => v.category).sum ≤ 8) (g1 : kc + (pm_rm mi2).cells ≤ kc2) (g2 : ks + (pm_rm mi2).slots ≤ ks2) (k : ∀ v w1, P2 v w1 → gm_V D tc mi P kc2 ks2 (pc + 3) lo (v.toList ++ rest) (w1 ++ wr)) : gm_V D tc mi P kc ks pc lo st ws := by
  intro p l e s m args below meth c A hO H locs cells slots ls hc hs hP hD hS hlv
  obtain ⟨hx, hb, hml, hown, hts, hr, hlk, htr, hst, hA, hnm, htab⟩ := id hO
  subst hw
  subst hst0
  have hf2 := hf
  simp only [pm_fit, Bool.and_eq_true, decide_eq_true_eq] at hf2
  have hsub := gm_sub rfl hD hS hA
  have hPc : va_P D pm_cl wc H := gm_P_mem hP (fun q hq => List.mem_append_left _ hq)
  have hDc : va_D A wc := gm_D_left hD
  have hgi : GoodIn pm_good (va_wsU (pm_R (pm_id mi)) ix C (pm_y mi2).cls (pm_y mi2) (pm_y mi2) (pm_wsy mi2)) := by
    intro w hw
    unfold va_wsU at hw
    simp only [List.cons_append, List.nil_append, List.mem_cons] at hw
    rcases hw with rfl | rfl | rfl | rfl | rfl | hw
    · exact pm_good_self _ hl
    · exact pm_good_self _ hsa
    · exact pm_good_self _ hse
    · exact pm_good_self _ hi
    · exact pm_good_self _ hcal.2.1
    · exact pm_wsy_good hcal _ hw
  have hcu := va_cwU (s := s) (args := args) (R := pm_rm mi) (own := pm_R (pm_id mi)) (C := C) (owner := (pm_y mi2).cls) (index := ix) (mc := (pm_rm mi2).cells) (ms := (pm_rm mi2).slots) (rm := pm_rm mi2) (ws' := pm_good) (bytes := pm_cc mi2) (maxL := pm_nL mi2) (ret := pm_rt mi2) n hts hgi (by unfold pm_wsy; rw [hcal.2.2.1]; rfl) rfl rfl rfl hcal.2.2.2 ⟨hf2.1, hf2.2.1⟩
  have hrun := va_runU (Ts := pm_good) (own := pm_R (pm_id mi)) (As := As) (b := b) (rest := rest) (g := F0 m pc ls (As.reverse ++ .ref b :: rest)) (H := H) (locs := locs) (cells := cells) (slots := slots) (e := e) (below := below) (meth := meth)
    ⟨hx, hb, hml, hown, hts⟩ (hM l H.size htr) hcu ⟨gm_Pc_blind, va_recv hst.1 hPc hc0 he, fun U hU hW9 => ⟨rfl, by rw [hU], by rw [hU]; exact hPc, hDc.weaken (fun _ _ _ _ => trivial), hst.go hW9 hU hS hsub⟩⟩ rfl hn hlv.1 rfl (by simpa [JFrame.monitorRoom] using hW) hd ⟨Nat.le_trans (Nat.add_le_add_right hc _) hf2.2.2.1, Nat.le_trans (Nat.add_le_add_right hs _) hf2.2.2.2⟩
  intro T0 hT0 X0
  obtain ⟨v, st₀, t, T', L, h0, X', hL, e1, e2, ⟨⟨v', w1, hv, hp, hP2, hD2⟩, hF⟩, stp⟩ := hrun T0 hT0 X0
  have hv2 : v = v' := by injection hv
  subst hv2
  obtain ⟨k1, k2, k3⟩ := vx_keep h0 e1 hS (fun q _ h => hsub q h) hsub hL hF
  obtain ⟨j1, j2⟩ := gm_join hP hD k2 hsub (by rw [e1]; exact hP2) hD2
  obtain ⟨t2, a1, b1⟩ := k v w1 hp p l e s m args below meth c A hO T'.heap (locs ++ L) _ _ ls (Nat.le_trans (Nat.add_le_add_right hc _) g1) (Nat.le_trans (Nat.add_le_add_right hs _) g2) j1 j2 k3 hlv T' rfl X'
  exact ⟨t2, stp t2 a1, b1⟩
end GM
