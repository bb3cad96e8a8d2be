/-! throw new NoSuchElementException(text), as one row: follows vx_throwS, vx_throwSW of the given laws -/
section PMX2
variable {p : Program} {l : Launch} {e : Env} {R : Room} {s : State} {m : MethodId} {args : Array Value} {below : List Frame} {meth : Method} {c : Code} {H : Heap} {locs : List Loc} {cells slots : Nat} {Q : State → Prop}
variable {mc ms : Nat} {free : Addr → Prop} {A0 A1 : Nat → Prop} {H0 : Heap} {a : Array Value} {ls : Array Slot} {st0 rest : List Value}
variable {Qc : Array Value → State → Outcome → State → Prop} {XC : String → State → State → Prop}
def pm_atX (own : String) (ic : Nat) (X sup : String) (names : List String) : List Cond := (pm_xAtoms own ic X sup names).filter vx_no
theorem pm_tX {cc : ByteArray} {pc : Nat} (hexec : p.tables.exec = Jvm.exec) (hb : c.code = cc) (hl : l.stackTraces = false) {own cls sup text : String} {names : List String} {ik is ic mc ms sa : Nat} {A : Nat → Prop}
    (hown : s.vm.findClass own = some m.cls) (hcls : Bundle.fit cls = true) (hsup : Bundle.fit sup = true) (hnames : ∀ n ∈ names, Bundle.fit n = true) (hml : Cond.methodLink own ic (Bundle.initS cls) ≠ .methodLink cls 7 (Bundle.initS sup)) (hta : ∀ x ∈ Bundle.throwableAtoms, x ≠ .code (Bundle.initS cls) Bundle.six 2 none ∧ x ≠ .methodLink cls 7 (Bundle.initS sup)) (htb : ∀ x ∈ Bundle.throwableSAtoms, x ≠ .code (Bundle.initS cls) Bundle.six 2 none ∧ x ≠ .methodLink cls 7 (Bundle.initS sup)) (hne : cls ≠ sup) (hnn : cls ∉ names)
    (hk : (Cond.classLink own ik cls).before args s = true) (hini : (Cond.initialized cls).before args s = true) (hstr : vk_R own is text sa s) (hat : ∀ w ∈ pm_atX own ic cls sup names, w.before args s = true)
    (hgood : ∀ w ∈ Cond.classLink own ik cls :: Cond.initialized cls :: pm_atX own ic cls sup names, vx_ot w = true)
    (hU : vx_Zq Bundle.tN "UNASSIGNED_STACK" Bundle.steD A s s.heap) (hN : vx_Zq Bundle.tN "SUPPRESSED_SENTINEL" Bundle.listD A s s.heap) (hS : va_S A s.heap H locs) (hsize : ls.size = c.maxLocals)
    (d0 : decode cc pc = .ok (.new ik, 3)) (d3 : decode cc (pc + 3) = .ok (.dup, 1)) (d4 : decode cc (pc + 4) = .ok (.ldc is, 2)) (d6 : decode cc (pc + 6) = .ok (.invokespecial ic, 3)) (d9 : decode cc (pc + 9) = .ok (.athrow, 1))
    (hout : ∀ x ∈ c.exceptionTable.toList, covers x (pc + 9) = false)
    (hRframes : names.length + 4 < R.frames) (hRlocals : (rest.map fun v => v.category).sum + (13 * (names.length + 2) + 43) ≤ R.locals) (hRcells : cells + 1 ≤ R.cells) (hRslots : slots + 6 ≤ R.slots) (hlocks : meth.locks = false)
    (hx : ∀ t : State, s.vm.Alike t.vm → H.size ≤ t.heap.size → (∀ q : Nat, q < H.size → t.heap[q]? = H[q]?) → XC cls s t)
    (hf : ∀ z ∈ locs, free z.base) (hc : cells + 1 ≤ mc) (hs : slots + 6 ≤ ms) :
    W p l e R s m args below meth c H locs cells slots (vx_MQ below Qc XC args s mc ms free) (F0 m pc ls rest) := by
  intro T hT X
  have htr : e.platform.stackTraces = false := (show e.platform.stackTraces = l.stackTraces by rw [X.admits.platform]).trans hl
  have Y := vx_rebase X (R' := { frames := R.frames, locals := R.locals, cells := 1, slots := 6 }) (Nat.le_refl _) (Nat.le_refl _) hRcells hRslots
  obtain ⟨s', hA⟩ : ∃ z, z = (T.setVm s.vm).setFrames (.invoking m args :: below) := ⟨_, rfl⟩
  rw [← hA] at Y
  have hvm : s'.vm = s.vm := by rw [hA]; rfl
  have hhp : s'.heap = H := by rw [hA]; exact hT
  have hW0 : s.WarmedH s'.vm := by rw [hvm]; exact State.WarmedH.refl s
  have hat' : ∀ w ∈ pm_atX own ic cls sup names, w.before args s' = true := fun w hw => vx_ot_at hW0 hvm.symm (hgood w (List.mem_cons_of_mem _ (List.mem_cons_of_mem _ hw))) (hat w hw)
  have hk' : (Cond.classLink own ik cls).before args s' = true := vx_ot_at hW0 hvm.symm (hgood _ List.mem_cons_self) hk
  have hini' : (Cond.initialized cls).before args s' = true := vx_ot_at hW0 hvm.symm (hgood _ (List.mem_cons_of_mem _ List.mem_cons_self)) hini
  have hU' : vx_Zq Bundle.tN "UNASSIGNED_STACK" Bundle.steD A s' s'.heap := by rw [hhp]; exact vx_Zq.moved hW0.alike (hU.kept hS.2.1)
  have hN' : vx_Zq Bundle.tN "SUPPRESSED_SENTINEL" Bundle.listD A s' s'.heap := by rw [hhp]; exact vx_Zq.moved hW0.alike (hN.kept hS.2.1)
  have h : ∀ w ∈ pm_xAtoms own ic cls sup names, w.before args s' = true := vx_own hat' (vx_isRefq hU'.1) (vx_isRefq hN'.1) hU'.2.word hN'.2.word
  have hown' : s'.vm.findClass own = some m.cls := by rw [hvm]; exact hown
  have hins : (Cond.instantiable cls 6).before args s' = true := pm_xAtoms_of h (by simp [Bundle.ownAtoms]) (by simp) (by simp)
  obtain ⟨vm₁, cX, kX, hfX, hkX, -, -, X₁, st1⟩ := Y.newCold hexec (own := own) (C := cls) (index := ik) (n := 6) hown' hk' hins hini'
    (g := F0 m pc ls rest) rfl (by rw [hb]; exact d0) (Nat.le_refl _) (Nat.le_refl _)
  generalize hT1 : (T.setVm vm₁).pushCell { cls := cX, slots := kX.instanceTypes.map defaultValue, vm := .none } = T1 at X₁ st1
  have hcat : (Value.ref T.heap.size).category = 1 := rfl
  have hcellA : T1.heap[T.heap.size]? = some (freshCell cX kX) := by rw [← hT1]; exact State.heap_pushCell_size _ _
  have d3' : decode c.code (pc + 3) = .ok (.dup, 1) := by rw [hb]; exact d3
  have d4' : decode c.code (pc + 4) = .ok (.ldc is, 2) := by rw [hb]; exact d4
  have hstr' : vk_R own is text sa s' := vk_R.warm hW0 hstr
  obtain ⟨U, hsteps, hrun, hend, hW, hsame, ce, hce, hO⟩ := pm_ctorThrowX X₁ hexec htr (own := own) (cls := cls) (sup := sup) (names := names) (ic := ic) hown' hcls hsup hnames hml hta htb hne hnn h (fun x hx => nomatch hx) hfX hkX hcellA (by rw [hhp, hT]; exact Nat.le_refl _) (msg := .ref sa) rfl
    (g := { method := m, pc := pc + 6, locals := ls, stack := .ref sa :: .ref T.heap.size :: .ref T.heap.size :: rest, locked := none }) rfl hsize rfl rfl (rest := rest) rfl
    (by rw [hb]; exact d6) (by rw [hb]; exact d9) hout hRframes (by simp only [List.map_cons, List.sum_cons, hcat]; omega) hlocks
  obtain ⟨f1, f2⟩ := vx_frame hsame
  rw [hhp] at f1 f2
  have hWs : s.WarmedH U.vm := State.WarmedH.trans hW0 hW
  have hcl : s.vm.findClass cls = some ce.cls := by
    have h9 := hO.cls
    rw [hvm] at h9
    exact h9
  have hall : s.sameButNew ({ U with vm := s.vm } : State) locs mc ms := by
    subst hA
    obtain ⟨e1, e2⟩ := hsame
    rw [State.setFrames_setFrames] at e1
    have h2 : (T.setVm s.vm).sameButNew ({ U with vm := s.vm } : State) [] (0 + 1) (0 + 6) := ⟨e1, e2⟩
    have h3 := X.same.trans h2
    rw [List.append_nil] at h3
    exact h3.mono hc hs
  refine ⟨U, ?_, .threw T.heap.size, hrun, hend, Or.inr ⟨T.heap.size, rfl, cls, ce, locs, hx U hWs.alike f1 (fun q hq => f2 q hq (fun z hz => nomatch hz)), hce, hO.vm, hcl, hWs, hall, hf⟩⟩
  refine st1 _ ?_
  show Steps p.tables e below (T1.setTop { method := m, pc := pc + 3, locals := ls, stack := .ref T.heap.size :: rest, locked := none }) _
  jvm_step X₁.here [X₁.here.top, hexec, d3', Value.category]
  exact X₁.ldcString hexec (own := own) (text := text) (index := is) (a := sa) hown' hstr'.1 hstr'.2
    (g := { method := m, pc := pc + 4, locals := ls, stack := .ref T.heap.size :: .ref T.heap.size :: rest, locked := none }) rfl d4' _ hsteps
theorem pm_tXW {cc : ByteArray} {pc : Nat} (hexec : p.tables.exec = Jvm.exec) (hb : c.code = cc) (hl : l.stackTraces = false) {own cls sup text : String} {names : List String} {ik is ic mc ms sa : Nat} {A : Nat → Prop}
    (hown : s.vm.findClass own = some m.cls) (hcls : Bundle.fit cls = true) (hsup : Bundle.fit sup = true) (hnames : ∀ n ∈ names, Bundle.fit n = true) (hml : Cond.methodLink own ic (Bundle.initS cls) ≠ .methodLink cls 7 (Bundle.initS sup)) (hta : ∀ x ∈ Bundle.throwableAtoms, x ≠ .code (Bundle.initS cls) Bundle.six 2 none ∧ x ≠ .methodLink cls 7 (Bundle.initS sup)) (htb : ∀ x ∈ Bundle.throwableSAtoms, x ≠ .code (Bundle.initS cls) Bundle.six 2 none ∧ x ≠ .methodLink cls 7 (Bundle.initS sup)) (hne : cls ≠ sup) (hnn : cls ∉ names)
    (hk : (Cond.classLink own ik cls).before args s = true) (hini : (Cond.initialized cls).before args s = true) (hstr : vk_R own is text sa s) (hat : ∀ w ∈ pm_atX own ic cls sup names, w.before args s = true)
    (hgood : ∀ w ∈ Cond.classLink own ik cls :: Cond.initialized cls :: pm_atX own ic cls sup names, vx_ot w = true)
    (hU : vx_Zq Bundle.tN "UNASSIGNED_STACK" Bundle.steD A s s.heap) (hN : vx_Zq Bundle.tN "SUPPRESSED_SENTINEL" Bundle.listD A s s.heap) (hS : va_S A s.heap H locs) (hsize : ls.size = c.maxLocals)
    (d0 : decode cc pc = .ok (.new ik, 3)) (d3 : decode cc (pc + 3) = .ok (.dup, 1)) (d4 : decode cc (pc + 4) = .ok (.ldc_w is, 3)) (d7 : decode cc (pc + 7) = .ok (.invokespecial ic, 3)) (d10 : decode cc (pc + 10) = .ok (.athrow, 1))
    (hout : ∀ x ∈ c.exceptionTable.toList, covers x (pc + 10) = false)
    (hRframes : names.length + 4 < R.frames) (hRlocals : (rest.map fun v => v.category).sum + (13 * (names.length + 2) + 43) ≤ R.locals) (hRcells : cells + 1 ≤ R.cells) (hRslots : slots + 6 ≤ R.slots) (hlocks : meth.locks = false)
    (hx : ∀ t : State, s.vm.Alike t.vm → H.size ≤ t.heap.size → (∀ q : Nat, q < H.size → t.heap[q]? = H[q]?) → XC cls s t)
    (hf : ∀ z ∈ locs, free z.base) (hc : cells + 1 ≤ mc) (hs : slots + 6 ≤ ms) :
    W p l e R s m args below meth c H locs cells slots (vx_MQ below Qc XC args s mc ms free) (F0 m pc ls rest) := by
  intro T hT X
  have htr : e.platform.stackTraces = false := (show e.platform.stackTraces = l.stackTraces by rw [X.admits.platform]).trans hl
  have Y := vx_rebase X (R' := { frames := R.frames, locals := R.locals, cells := 1, slots := 6 }) (Nat.le_refl _) (Nat.le_refl _) hRcells hRslots
  obtain ⟨s', hA⟩ : ∃ z, z = (T.setVm s.vm).setFrames (.invoking m args :: below) := ⟨_, rfl⟩
  rw [← hA] at Y
  have hvm : s'.vm = s.vm := by rw [hA]; rfl
  have hhp : s'.heap = H := by rw [hA]; exact hT
  have hW0 : s.WarmedH s'.vm := by rw [hvm]; exact State.WarmedH.refl s
  have hat' : ∀ w ∈ pm_atX own ic cls sup names, w.before args s' = true := fun w hw => vx_ot_at hW0 hvm.symm (hgood w (List.mem_cons_of_mem _ (List.mem_cons_of_mem _ hw))) (hat w hw)
  have hk' : (Cond.classLink own ik cls).before args s' = true := vx_ot_at hW0 hvm.symm (hgood _ List.mem_cons_self) hk
  have hini' : (Cond.initialized cls).before args s' = true := vx_ot_at hW0 hvm.symm (hgood _ (List.mem_cons_of_mem _ List.mem_cons_self)) hini
  have hU' : vx_Zq Bundle.tN "UNASSIGNED_STACK" Bundle.steD A s' s'.heap := by rw [hhp]; exact vx_Zq.moved hW0.alike (hU.kept hS.2.1)
  have hN' : vx_Zq Bundle.tN "SUPPRESSED_SENTINEL" Bundle.listD A s' s'.heap := by rw [hhp]; exact vx_Zq.moved hW0.alike (hN.kept hS.2.1)
  have h : ∀ w ∈ pm_xAtoms own ic cls sup names, w.before args s' = true := vx_own hat' (vx_isRefq hU'.1) (vx_isRefq hN'.1) hU'.2.word hN'.2.word
  have hown' : s'.vm.findClass own = some m.cls := by rw [hvm]; exact hown
  have hins : (Cond.instantiable cls 6).before args s' = true := pm_xAtoms_of h (by simp [Bundle.ownAtoms]) (by simp) (by simp)
  obtain ⟨vm₁, cX, kX, hfX, hkX, -, -, X₁, st1⟩ := Y.newCold hexec (own := own) (C := cls) (index := ik) (n := 6) hown' hk' hins hini'
    (g := F0 m pc ls rest) rfl (by rw [hb]; exact d0) (Nat.le_refl _) (Nat.le_refl _)
  generalize hT1 : (T.setVm vm₁).pushCell { cls := cX, slots := kX.instanceTypes.map defaultValue, vm := .none } = T1 at X₁ st1
  have hcat : (Value.ref T.heap.size).category = 1 := rfl
  have hcellA : T1.heap[T.heap.size]? = some (freshCell cX kX) := by rw [← hT1]; exact State.heap_pushCell_size _ _
  have d3' : decode c.code (pc + 3) = .ok (.dup, 1) := by rw [hb]; exact d3
  have d4' : decode c.code (pc + 4) = .ok (.ldc_w is, 3) := by rw [hb]; exact d4
  have hstr' : vk_R own is text sa s' := vk_R.warm hW0 hstr
  obtain ⟨U, hsteps, hrun, hend, hW, hsame, ce, hce, hO⟩ := pm_ctorThrowX X₁ hexec htr (own := own) (cls := cls) (sup := sup) (names := names) (ic := ic) hown' hcls hsup hnames hml hta htb hne hnn h (fun x hx => nomatch hx) hfX hkX hcellA (by rw [hhp, hT]; exact Nat.le_refl _) (msg := .ref sa) rfl
    (g := { method := m, pc := pc + 7, locals := ls, stack := .ref sa :: .ref T.heap.size :: .ref T.heap.size :: rest, locked := none }) rfl hsize rfl rfl (rest := rest) rfl
    (by rw [hb]; exact d7) (by rw [hb]; exact d10) hout hRframes (by simp only [List.map_cons, List.sum_cons, hcat]; omega) hlocks
  obtain ⟨f1, f2⟩ := vx_frame hsame
  rw [hhp] at f1 f2
  have hWs : s.WarmedH U.vm := State.WarmedH.trans hW0 hW
  have hcl : s.vm.findClass cls = some ce.cls := by
    have h9 := hO.cls
    rw [hvm] at h9
    exact h9
  have hall : s.sameButNew ({ U with vm := s.vm } : State) locs mc ms := by
    subst hA
    obtain ⟨e1, e2⟩ := hsame
    rw [State.setFrames_setFrames] at e1
    have h2 : (T.setVm s.vm).sameButNew ({ U with vm := s.vm } : State) [] (0 + 1) (0 + 6) := ⟨e1, e2⟩
    have h3 := X.same.trans h2
    rw [List.append_nil] at h3
    exact h3.mono hc hs
  refine ⟨U, ?_, .threw T.heap.size, hrun, hend, Or.inr ⟨T.heap.size, rfl, cls, ce, locs, hx U hWs.alike f1 (fun q hq => f2 q hq (fun z hz => nomatch hz)), hce, hO.vm, hcl, hWs, hall, hf⟩⟩
  refine st1 _ ?_
  show Steps p.tables e below (T1.setTop { method := m, pc := pc + 3, locals := ls, stack := .ref T.heap.size :: rest, locked := none }) _
  jvm_step X₁.here [X₁.here.top, hexec, d3', Value.category]
  exact X₁.ldcStringW hexec (own := own) (text := text) (index := is) (a := sa) hown' hstr'.1 hstr'.2
    (g := { method := m, pc := pc + 4, locals := ls, stack := .ref T.heap.size :: .ref T.heap.size :: rest, locked := none }) rfl d4' _ hsteps
end PMX2
/-- the tables of an exception class whose super is linked elsewhere -/
def pm_ExX (E S : String) (ik ic : Nat) : Prop := Bundle.fit E = true ∧ (E, E) ∈ pm_csl ∧ Cond.classLink RX9 ik E ∈ pm_good ∧ Cond.initialized E ∈ pm_good ∧ (∀ w ∈ (pm_atX RX9 ic E S ["java/lang/Exception"]).filter goodWord, w ∈ pm_good) ∧ (∀ w ∈ (pm_atX RX9 ic E S ["java/lang/Exception"]).filter (fun w => !goodWord w), w ∈ Cond.castable E E :: pm_dcl.map Cond.declares) ∧ (∀ w ∈ Cond.classLink RX9 ik E :: Cond.initialized E :: pm_atX RX9 ic E S ["java/lang/Exception"], vx_ot w = true) ∧ (Bundle.fit S = true ∧ Cond.methodLink RX9 ic (Bundle.initS E) ≠ .methodLink E 7 (Bundle.initS S) ∧ E ≠ S ∧ E ∉ ["java/lang/Exception"]) ∧ (∀ x ∈ Bundle.throwableAtoms, x ≠ .code (Bundle.initS E) Bundle.six 2 none ∧ x ≠ .methodLink E 7 (Bundle.initS S)) ∧ (∀ x ∈ Bundle.throwableSAtoms, x ≠ .code (Bundle.initS E) Bundle.six 2 none ∧ x ≠ .methodLink E 7 (Bundle.initS S))
set_option maxHeartbeats 4000000 in
set_option maxRecDepth 100000 in
theorem pm_exNS : pm_ExX "java/util/NoSuchElementException" "java/lang/RuntimeException" 141 145 := ⟨by decide +kernel, by decide +kernel, pm_tab (i := 631) (by decide +kernel) rfl, pm_tab (i := 22) (by decide +kernel) rfl, fun w hw => pm_good_in (List.mem_append_right _ (of_decide_eq_true (List.all_eq_true.mp (show ((pm_atX RX9 145 "java/util/NoSuchElementException" "java/lang/RuntimeException" ["java/lang/Exception"]).filter goodWord).all (fun w => decide (w ∈ tables_1)) = true by decide +kernel) w hw))) (List.mem_filter.mp hw).2, fun w hw => of_decide_eq_true (List.all_eq_true.mp (show ((pm_atX RX9 145 "java/util/NoSuchElementException" "java/lang/RuntimeException" ["java/lang/Exception"]).filter (fun w => !goodWord w)).all (fun w => decide (w ∈ Cond.castable "java/util/NoSuchElementException" "java/util/NoSuchElementException" :: pm_dcl.map Cond.declares)) = true by decide +kernel) w hw), fun w hw => List.all_eq_true.mp (show (Cond.classLink RX9 141 "java/util/NoSuchElementException" :: Cond.initialized "java/util/NoSuchElementException" :: pm_atX RX9 145 "java/util/NoSuchElementException" "java/lang/RuntimeException" ["java/lang/Exception"]).all (fun w => vx_ot w) = true by decide +kernel) w hw, ⟨by decide +kernel, by decide +kernel, by decide, by decide⟩, fun x hx => of_decide_eq_true (List.all_eq_true.mp (show Bundle.throwableAtoms.all (fun x => decide (x ≠ .code (Bundle.initS "java/util/NoSuchElementException") Bundle.six 2 none ∧ x ≠ .methodLink "java/util/NoSuchElementException" 7 (Bundle.initS "java/lang/RuntimeException"))) = true by decide +kernel) x hx), fun x hx => of_decide_eq_true (List.all_eq_true.mp (show Bundle.throwableSAtoms.all (fun x => decide (x ≠ .code (Bundle.initS "java/util/NoSuchElementException") Bundle.six 2 none ∧ x ≠ .methodLink "java/util/NoSuchElementException" 7 (Bundle.initS "java/lang/RuntimeException"))) = true by decide +kernel) x hx)⟩
section PMTX
variable {mi : pm_Mi} {T : pm_Tg} {kc ks pc : Nat} {lo : List (Option Value)} {st : List Value} {μ : pm_Mm}
set_option maxHeartbeats 4000000 in
theorem pm_throwX {E S tx : String} {ik ic is : Nat} (hex : pm_ExX E S ik ic) (hid : pm_R (pm_id mi) = RX9) (htx : (RX9, is, tx) ∈ pm_stl) (hh : pm_hh mi = []) (d0 : decode (pm_cc mi) pc = .ok (.new ik, 3)) (d3 : decode (pm_cc mi) (pc + 3) = .ok (.dup, 1)) (d4 : decode (pm_cc mi) (pc + 4) = .ok (.ldc is, 2)) (d6 : decode (pm_cc mi) (pc + 6) = .ok (.invokespecial ic, 3)) (d9 : decode (pm_cc mi) (pc + 9) = .ok (.athrow, 1))
    (hR : 5 < (pm_rm mi).frames ∧ 90 ≤ (pm_rm mi).locals ∧ kc + 1 ≤ (pm_rm mi).cells ∧ ks + 6 ≤ (pm_rm mi).slots) (hW : (st.map fun v => v.category).sum ≤ 8) (hq : T.2.1 E μ) : pm_V mi T kc ks pc lo st μ := by
  intro p l e s m args below meth c D tc ad A hO H locs cells slots ls hc hs hP hD hS hlv
  obtain ⟨hx, hb, hml, hown, hts, hr, hlk, htr, hst, hA, htab, hZ⟩ := id hO
  obtain ⟨hK, hNw, hStr, hCs, hDc, hNc, hU, hN⟩ := id hst
  obtain ⟨h1, h2, h3, h4, h5, h6, h7, ⟨e1, e2, e3, e4⟩, e5, e6⟩ := hex
  obtain ⟨sa, hsa⟩ := hStr _ htx
  rw [hid] at hown
  refine pm_tX (own := RX9) (cls := E) (sup := S) (text := tx) (names := ["java/lang/Exception"]) (sa := sa) (A := A) (free := A) hx hb htr hown h1 e1 (by decide +kernel) e2 e5 e6 e3 e4 (hts _ h3) (hts _ h4) hsa (vx_hat (fun w hw => hts w (h5 w hw)) h6 (vx_c (va_Nw.use rfl (hCs _ h2)) (fun w hw => by obtain ⟨y, hy, rfl⟩ := List.mem_map.mp hw; exact va_Nw.use rfl (hDc y hy)))) h7 hU hN.1 hS (hlv.1.trans hml.symm) d0 d3 d4 d6 d9 (by rw [htab, hh]; intro x hx; cases hx) hR.1 (by rw [pm_cats]; show _ + 82 ≤ _; omega) (by omega) (by omega) hlk ?_ hS.2.2 (by omega) (by omega)
  intro t _ ht1 ht2
  refine ⟨⟨μ, hq, fun k q hk => ((hP k q hk).kept (ht2 q.1 (hP k q hk).lt)), hD⟩, Nat.le_trans hS.1 ht1, fun q h8 h9 => ?_⟩
  rw [ht2 q (Nat.lt_of_lt_of_le h8 hS.1)]
  exact hS.2.1 q h8 h9
set_option maxHeartbeats 4000000 in
theorem pm_throwXW {E S tx : String} {ik ic is : Nat} (hex : pm_ExX E S ik ic) (hid : pm_R (pm_id mi) = RX9) (htx : (RX9, is, tx) ∈ pm_stl) (hh : pm_hh mi = []) (d0 : decode (pm_cc mi) pc = .ok (.new ik, 3)) (d3 : decode (pm_cc mi) (pc + 3) = .ok (.dup, 1)) (d4 : decode (pm_cc mi) (pc + 4) = .ok (.ldc_w is, 3)) (d6 : decode (pm_cc mi) (pc + 7) = .ok (.invokespecial ic, 3)) (d9 : decode (pm_cc mi) (pc + 10) = .ok (.athrow, 1))
    (hR : 5 < (pm_rm mi).frames ∧ 90 ≤ (pm_rm mi).locals ∧ kc + 1 ≤ (pm_rm mi).cells ∧ ks + 6 ≤ (pm_rm mi).slots) (hW : (st.map fun v => v.category).sum ≤ 8) (hq : T.2.1 E μ) : pm_V mi T kc ks pc lo st μ := by
  intro p l e s m args below meth c D tc ad A hO H locs cells slots ls hc hs hP hD hS hlv
  obtain ⟨hx, hb, hml, hown, hts, hr, hlk, htr, hst, hA, htab, hZ⟩ := id hO
  obtain ⟨hK, hNw, hStr, hCs, hDc, hNc, hU, hN⟩ := id hst
  obtain ⟨h1, h2, h3, h4, h5, h6, h7, ⟨e1, e2, e3, e4⟩, e5, e6⟩ := hex
  obtain ⟨sa, hsa⟩ := hStr _ htx
  rw [hid] at hown
  refine pm_tXW (own := RX9) (cls := E) (sup := S) (text := tx) (names := ["java/lang/Exception"]) (sa := sa) (A := A) (free := A) hx hb htr hown h1 e1 (by decide +kernel) e2 e5 e6 e3 e4 (hts _ h3) (hts _ h4) hsa (vx_hat (fun w hw => hts w (h5 w hw)) h6 (vx_c (va_Nw.use rfl (hCs _ h2)) (fun w hw => by obtain ⟨y, hy, rfl⟩ := List.mem_map.mp hw; exact va_Nw.use rfl (hDc y hy)))) h7 hU hN.1 hS (hlv.1.trans hml.symm) d0 d3 d4 d6 d9 (by rw [htab, hh]; intro x hx; cases hx) hR.1 (by rw [pm_cats]; show _ + 82 ≤ _; omega) (by omega) (by omega) hlk ?_ hS.2.2 (by omega) (by omega)
  intro t _ ht1 ht2
  refine ⟨⟨μ, hq, fun k q hk => ((hP k q hk).kept (ht2 q.1 (hP k q hk).lt)), hD⟩, Nat.le_trans hS.1 ht1, fun q h8 h9 => ?_⟩
  rw [ht2 q (Nat.lt_of_lt_of_le h8 hS.1)]
  exact hS.2.1 q h8 h9
end PMTX
