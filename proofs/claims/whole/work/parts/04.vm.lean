/-! THE FLAT MACHINE: all objects of the run lie in one fixed list of cells; a reference is a place in that list; what changes is a memory of numbers. -/
/-- the private methods of a builder that its own class is asked for -/
def pm_sbs : List Cond := [Cond.selects RJ4 yJ5_ensureCapacityInternal_d00df yJ5_ensureCapacityInternal_d00df, Cond.selects RJ4 yJ5_newCapacity_0f7a4 yJ5_newCapacity_0f7a4]
def pm_good : List Cond := (pm_sbs ++ lw_tbl).filter goodWord
theorem pm_sb_in {w : Cond} (h : w ∈ pm_sbs) (g : goodWord w = true) : w ∈ pm_good := List.mem_filter.mpr ⟨List.mem_append_left _ h, g⟩
theorem pm_good_in {w : Cond} (h : w ∈ lw_tbl) (g : goodWord w = true) : w ∈ pm_good := List.mem_filter.mpr ⟨List.mem_append_right _ h, g⟩
theorem pm_tab {w : Cond} {i : Nat} (h : tables_1[i]? = some w) (g : goodWord w = true) : w ∈ pm_good := pm_good_in (List.mem_append_right _ (List.mem_of_getElem? h)) g
theorem pm_prv {w : Cond} {i : Nat} (h : lw_privs[i]?.map (fun q => Cond.selects q.1.cls q.1 q.1) = some w) (g : goodWord w = true) : w ∈ pm_good := pm_good_in (List.mem_append_left _ (by unfold k2_sels; exact List.mem_of_getElem? (i := i) (by rw [List.getElem?_map]; exact h))) g
theorem pm_good_self : GoodIn pm_good pm_good := fun w h => ⟨h, good_of_word (List.mem_filter.mp h).2⟩
def pm_R : Nat → String
  | 0 => RX0
  | 1 => RX1
  | 2 => RX2
  | 3 => RX3
  | 4 => RX4
  | 5 => RX5
  | 6 => RX6
  | 7 => RX7
  | 8 => RX8
  | 9 => RX9
  | 10 => RX10
  | 12 => RJ5
  | 13 => RJ4
  | 14 => RJ6
  | 15 => RJ7
  | 16 => RJ8
  | 17 => RJ1
  | 18 => RJ3
  | 19 => RJ0
  | _ => RL
abbrev pm_cl : List vw_C := [(RX0, TX0, 4), (RX1, TX1, 7), (RX2, TX2, 3), (RX3, TX3, 3), (RX4, TX4, 14), (RX5, TX5, 8), (RX6, TX6, 5), (RX7, TX7, 6), (RX8, TX8, 6), (RX9, TX9, 7), (RX10, TX10, 16), (RJ4, TJ4, 4), (RJ0, TJ0, 2)]
abbrev pm_Mm : Type := (Nat → Nat → Int32) × (Nat → Int64) × (Nat → UInt64) × va_W
abbrev pm_Sh : Type := (Nat × Nat) ⊕ (Nat × List (Option Nat))
/-- the cells of an office at b -/
def pm_off (b : Nat) : List pm_Sh := [.inr (5, [some (b + 1), some (b + 4), some (b + 9), some (b + 15), some (b + 21), some (b + 25), none, some (b + 38)]), .inr (3, [none, some (b + 2), some (b + 3)]), .inl (0, 16), .inl (0, 16), .inr (6, [none, some (b + 5), some (b + 6), some (b + 7), some (b + 8)]), .inl (0, 20), .inl (0, 20), .inl (0, 20), .inl (0, 20), .inr (8, [none, some (b + 10), some (b + 11), some (b + 12), some (b + 13), some (b + 14)]), .inl (0, 10), .inl (0, 10), .inl (0, 10), .inl (0, 10), .inl (0, 10), .inr (7, [none, some (b + 16), some (b + 17), some (b + 18), some (b + 19), some (b + 20)]), .inl (0, 12), .inl (0, 12), .inl (0, 12), .inl (0, 12), .inl (0, 12), .inr (0, [none, some (b + 22), some (b + 23), some (b + 24)]), .inl (0, 20), .inl (0, 20), .inl (0, 20), .inr (4, [none, none, some (b + 26), some (b + 27), some (b + 28), some (b + 29), some (b + 30), some (b + 31), some (b + 32), some (b + 33), some (b + 34), some (b + 35), some (b + 36), some (b + 37)]), .inl (0, 30), .inl (0, 30), .inl (0, 30), .inl (0, 30), .inl (0, 30), .inl (0, 30), .inl (0, 30), .inl (0, 30), .inl (0, 30), .inl (0, 30), .inl (0, 30), .inl (0, 30), .inl (0, 30)]
def pm_sh : List pm_Sh := [.inr (9, [some 1, some 45, some 57, none, some 40, none, none])] ++ (pm_off 1 ++ ([.inr (1, [none, none, some 41, some 42, some 43, some 44, none]), .inl (0, 40), .inl (0, 40), .inl (0, 40), .inl (1, 40), .inr (2, [none, none, some 46]), .inl (4, 8), .inr (10, [some 48, some 49, some 50, none, some 51, none, none, none, some 52, none, some 53, none, none, none, some 54, none]), .inl (0, 620), .inl (0, 620), .inl (0, 620), .inl (0, 4960), .inl (0, 40), .inl (0, 40), .inl (0, 48), .inl (2, 1), .inl (3, 1)] ++ (pm_off 57 ++ (pm_off 96 ++ (pm_off 135 ++ (pm_off 174 ++ (pm_off 213 ++ (pm_off 252 ++ (pm_off 291 ++ (pm_off 330 ++ pm_off 369))))))))))
theorem pm_sh_n : pm_sh.length = 408 := by decide +kernel
def pm_ce (tc : Nat → ClassId) (ad : Nat → Nat) (μ : pm_Mm) (i : Nat) (x : pm_Sh) : va_E := match x with
  | .inl (0, n) => .inl (tc 0, n, .inl (μ.1 i))
  | .inl (1, n) => .inl (tc 1, n, .inl (μ.1 i))
  | .inl (2, n) => .inl (tc 2, n, .inr (.inl μ.2.1))
  | .inl (3, n) => .inl (tc 3, n, .inr (.inr (.inr (.inl μ.2.2.1))))
  | .inl (_, n) => .inl (tc 4, n, .inr (.inr (.inr (.inr (fun k => some (ad (96 + 39 * k)))))))
  | .inr (ci, fs) => .inr (ci, fs.mapIdx (fun k o => match o with | some r => Value.ref (ad r) | none => Value.int (μ.1 i k)))
def pm_ws (tc : Nat → ClassId) (ad : Nat → Nat) (μ : pm_Mm) : va_W := pm_sh.mapIdx (fun i x => (ad i, pm_ce tc ad μ i x)) ++ μ.2.2.2
def pm_tys (tc : Nat → ClassId) : List (ClassId × FieldType) := [(tc 0, .int), (tc 1, .char), (tc 2, .long), (tc 3, .double), (tc 4, .object "LetterRouter$Office"), (tc 5, .byte)]
theorem pm_ws_get {tc : Nat → ClassId} {ad : Nat → Nat} {μ : pm_Mm} {i : Nat} {x : pm_Sh} (h : pm_sh[i]? = some x) : (pm_ws tc ad μ)[i]? = some (ad i, pm_ce tc ad μ i x) := by
  unfold pm_ws
  have hi : i < pm_sh.length := (List.getElem?_eq_some_iff.mp h).1
  rw [List.getElem?_append_left (by simpa using hi), List.getElem?_mapIdx, h]
  rfl
theorem pm_list_set {α β : Type} (L : List α) (R : List β) (f g : Nat → α → β) (r : Nat) (x : α) (h : L[r]? = some x) (hk : ∀ i y, i ≠ r → L[i]? = some y → g i y = f i y) : (L.mapIdx f ++ R).set r (g r x) = L.mapIdx g ++ R := by
  have hr : r < L.length := (List.getElem?_eq_some_iff.mp h).1
  rw [List.set_append_left _ _ (by simpa using hr)]
  congr 1
  apply List.ext_getElem?
  intro i
  by_cases hi : i = r
  · subst hi
    rw [List.getElem?_set_self (by simpa using hr), List.getElem?_mapIdx, h]
    rfl
  · rw [List.getElem?_set_ne (fun q => hi q.symm), List.getElem?_mapIdx, List.getElem?_mapIdx]
    cases hy : L[i]? with
    | none => rfl
    | some y => simp only [Option.map_some]; rw [hk i y hi hy]
theorem pm_ws_set {tc : Nat → ClassId} {ad : Nat → Nat} {μ μ' : pm_Mm} {r : Nat} {x : pm_Sh} (h : pm_sh[r]? = some x) (hx : μ'.2.2.2 = μ.2.2.2)
    (hk : ∀ i y, i ≠ r → pm_sh[i]? = some y → pm_ce tc ad μ' i y = pm_ce tc ad μ i y) : (pm_ws tc ad μ).set r (ad r, pm_ce tc ad μ' r x) = pm_ws tc ad μ' := by
  unfold pm_ws
  rw [hx]
  exact pm_list_set pm_sh μ.2.2.2 (fun i x => (ad i, pm_ce tc ad μ i x)) (fun i x => (ad i, pm_ce tc ad μ' i x)) r x h (fun i y hi hy => congrArg (fun z => (ad i, z)) (hk i y hi hy))
/-- one number is put -/
def pm_set (μ : pm_Mm) (r k : Nat) (v : Int32) : pm_Mm := (fun i j => if i = r ∧ j = k then v else μ.1 i j, μ.2)
def pm_setL (μ : pm_Mm) (k : Nat) (v : Int64) : pm_Mm := (μ.1, (fun j => if j = k then v else μ.2.1 j), μ.2.2)
def pm_setD (μ : pm_Mm) (k : Nat) (v : UInt64) : pm_Mm := (μ.1, μ.2.1, (fun j => if j = k then v else μ.2.2.1 j), μ.2.2.2)
/-- a row of numbers is put -/
def pm_row (μ : pm_Mm) (r : Nat) (f : Nat → Int32) : pm_Mm := (fun i => if i = r then f else μ.1 i, μ.2)
theorem pm_ce_off {tc : Nat → ClassId} {ad : Nat → Nat} {μ μ' : pm_Mm} {i : Nat} {y : pm_Sh} (h1 : μ'.1 i = μ.1 i) (h2 : μ'.2.1 = μ.2.1) (h3 : μ'.2.2.1 = μ.2.2.1) : pm_ce tc ad μ' i y = pm_ce tc ad μ i y := by
  unfold pm_ce
  rw [h1, h2, h3]
theorem pm_set_off {μ : pm_Mm} {r k i : Nat} {v : Int32} (h : i ≠ r) : (pm_set μ r k v).1 i = μ.1 i := by
  funext j
  simp [pm_set, h]
theorem pm_row_off {μ : pm_Mm} {r i : Nat} {f : Nat → Int32} (h : i ≠ r) : (pm_row μ r f).1 i = μ.1 i := by
  simp [pm_row, h]
theorem pm_set_at (μ : pm_Mm) (r k : Nat) (v : Int32) : (pm_set μ r k v).1 r = upd (μ.1 r) k v := by
  funext j
  simp [pm_set, upd]
theorem pm_row_at (μ : pm_Mm) (r : Nat) (f : Nat → Int32) : (pm_row μ r f).1 r = f := by simp [pm_row]
/-- values: a reference is a place -/
def pm_rv (ad : Nat → Nat) (v : Value) : Value := match v with
  | .ref r => .ref (ad r)
  | x => x
/-- locals -/
def pm_LV (ad : Nat → Nat) (ls : Array Slot) (nL : Nat) (lo : List (Option Value)) : Prop := ls.size = nL ∧ lv_wf ls ∧ ∀ (i : Nat) (v : Value), lo[i]? = some (some v) → ls[i]? = some (.val (pm_rv ad v))
def pm_as (ad : Nat → Nat) (lo : List (Option Value)) : List (Nat × Value) := lo.zipIdx.filterMap (fun q => q.1.map (fun v => (q.2, pm_rv ad v)))
theorem pm_as_mem {ad : Nat → Nat} {lo : List (Option Value)} {q : Nat × Value} : q ∈ pm_as ad lo ↔ ∃ v, lo[q.1]? = some (some v) ∧ q.2 = pm_rv ad v := by
  unfold pm_as
  constructor
  · intro h
    obtain ⟨⟨o, j⟩, h1, h2⟩ := List.mem_filterMap.mp h
    have h3 := List.mem_zipIdx_iff_getElem?.mp h1
    cases o with
    | none => cases h2
    | some v =>
      have h4 : (j, pm_rv ad v) = q := Option.some.inj h2
      subst h4
      exact ⟨v, h3, rfl⟩
  · rintro ⟨v, h1, h2⟩
    refine List.mem_filterMap.mpr ⟨(some v, q.1), List.mem_zipIdx_iff_getElem?.mpr h1, ?_⟩
    show some (q.1, pm_rv ad v) = some q
    rw [← h2]
theorem pm_LV.has {ad : Nat → Nat} {ls : Array Slot} {nL : Nat} {lo : List (Option Value)} (h : pm_LV ad ls nL lo) : lv_has ls nL (pm_as ad lo) := by
  refine ⟨h.1, h.2.1, fun q hq => ?_⟩
  obtain ⟨v, h1, h2⟩ := pm_as_mem.mp hq
  rw [h2]
  exact h.2.2 _ _ h1
theorem pm_rv_cat (ad : Nat → Nat) (v : Value) : (pm_rv ad v).category = v.category := by cases v <;> rfl
/-- no value of two words ends at i -/
def pm_c1 (lo : List (Option Value)) (i : Nat) : Bool := match i with
  | 0 => true
  | j + 1 => match lo[j]? with
    | some (some (.long _)) => false
    | some (some (.double _)) => false
    | _ => true
theorem pm_c1_spec {lo : List (Option Value)} {j : Nat} {v : Value} (h : pm_c1 lo (j + 1) = true) (hv : lo[j]? = some (some v)) : ¬ v.category = 2 := by
  unfold pm_c1 at h
  simp only [hv] at h
  cases v <;> simp_all [Value.category]
theorem pm_LV.sto {ad : Nat → Nat} {ls : Array Slot} {nL i : Nat} {lo : List (Option Value)} {x : Value} (hc : pm_c1 lo i = true) (hi : i < lo.length) (h : lv_has ls nL ((i, pm_rv ad x) :: (pm_as ad lo).filter (fun q => !(q.1 == i) && !(q.1 + 1 == i && q.2.category == 2)))) : pm_LV ad ls nL (lo.set i (some x)) := by
  refine ⟨h.1, h.2.1, fun j v hj => ?_⟩
  by_cases e : j = i
  · subst e
    rw [List.getElem?_set_self hi] at hj
    have hv : x = v := by simpa using hj
    rw [← hv]
    exact h.2.2 (j, pm_rv ad x) List.mem_cons_self
  · rw [List.getElem?_set_ne (fun q => e q.symm)] at hj
    refine h.2.2 (j, pm_rv ad v) (List.mem_cons_of_mem _ (List.mem_filter.mpr ⟨pm_as_mem.mpr ⟨v, hj, rfl⟩, ?_⟩))
    have e1 : (j == i) = false := by simpa using e
    by_cases e2 : j + 1 = i
    · subst e2
      have := pm_c1_spec hc hj
      simp [e1, pm_rv_cat, this]
    · simp [e1, e2]
/-- fewer known locals -/
def pm_le : List (Option Value) → List (Option Value) → Prop
  | [], [] => True
  | none :: a, _ :: b => pm_le a b
  | some v :: a, x :: b => x = some v ∧ pm_le a b
  | _, _ => False
theorem pm_le_spec : ∀ (a b : List (Option Value)), pm_le a b → ∀ (i : Nat) (v : Value), a[i]? = some (some v) → b[i]? = some (some v)
  | [], [], _, i, v, h => by simp at h
  | none :: a, x :: b, hl, i, v, h => by
    cases i with
    | zero => simp at h
    | succ i => exact pm_le_spec a b hl i v h
  | some u :: a, x :: b, hl, i, v, h => by
    cases i with
    | zero =>
      have h1 : u = v := by simpa using h
      rw [← h1, hl.1]; rfl
    | succ i => exact pm_le_spec a b hl.2 i v h
  | [], _ :: _, hl, _, _, _ => hl.elim
  | none :: _, [], hl, _, _, _ => hl.elim
  | some _ :: _, [], hl, _, _, _ => hl.elim
theorem pm_LV.le {ad : Nat → Nat} {ls : Array Slot} {nL : Nat} {a b : List (Option Value)} (h : pm_LV ad ls nL b) (hl : pm_le a b) : pm_LV ad ls nL a := ⟨h.1, h.2.1, fun i v hv => h.2.2 i v (pm_le_spec a b hl i v hv)⟩
/-- a method: number of its class, name, code, locals, answer, room, handlers -/
abbrev pm_Mi : Type := Nat × MethodName × ByteArray × Nat × Option FieldType × Room × List (Nat × Nat × Nat × Nat)
abbrev pm_id (mi : pm_Mi) : Nat := mi.1
abbrev pm_y (mi : pm_Mi) : MethodName := mi.2.1
abbrev pm_cc (mi : pm_Mi) : ByteArray := mi.2.2.1
abbrev pm_nL (mi : pm_Mi) : Nat := mi.2.2.2.1
abbrev pm_rt (mi : pm_Mi) : Option FieldType := mi.2.2.2.2.1
abbrev pm_rm (mi : pm_Mi) : Room := mi.2.2.2.2.2.1
abbrev pm_hh (mi : pm_Mi) : List (Nat × Nat × Nat × Nat) := mi.2.2.2.2.2.2
/-- calls of private members of a nest mate -/
def pm_nwl : List (String × Nat × MethodName × String) := [(RX9, 9, yX5_init, RX9), (RX9, 32, yX1_init, RX9), (RX0, 25, yX9_copyRow, RX9), (RX0, 32, yX9_closeGap, RX9), (RX0, 36, yX9_isBetween, RX9), (RX2, 24, yX5_init, RX9), (RX3, 22, yX9_copyRow, RX9), (RX4, 55, yX9_copyRow, RX9), (RX5, 11, yX3_init, RX9), (RX5, 20, yX6_init, RX9), (RX5, 27, yX8_init, RX9), (RX5, 34, yX7_init, RX9), (RX5, 41, yX0_init, RX9), (RX5, 48, yX4_init, RX9), (RX5, 83, yX9_isBelow, RX9), (RX6, 28, yX9_copyRow, RX9), (RX6, 32, yX9_isBelow, RX9), (RX7, 31, yX9_copyRow, RX9), (RX7, 35, yX9_closeGap, RX9), (RX7, 39, yX9_isBetween, RX9), (RX8, 31, yX9_copyRow, RX9), (RX8, 39, yX9_isBetween, RX9)]
def pm_stl : List (String × Nat × String) := [(RX9, 53, "the street or the house number is out of range"), (RX9, 68, "there is such a house"), (RX9, 75, "16 houses were made"), (RX9, 97, "20 persons were made"), (RX9, 106, "the street or the side is out of range"), (RX9, 108, "the direction is out of range"), (RX9, 110, "the house numbers are out of range or out of order"), (RX9, 119, "10 walks were made"), (RX9, 135, "there is no such walk"), (RX9, 143, "there is no such stop"), (RX9, 146, "no walk serves the house"), (RX9, 173, "there is no such redirect"), (RX9, 184, "the index is below -1"), (RX9, 193, "the way is not so long"), (RX9, 195, "the last day is not from -1 to 365"), (RX9, 201, "both persons are the same"), (RX9, 210, "the limit is out of range"), (RX9, 228, "nobody would sign"), (RX9, 233, "the weight is out of range"), (RX9, 251, "the buffer contains 40 characters"), (RX9, 264, "the text has a fault"), (RX9, 280, "no call was refused"), (RX9, 285, "what is not from 0 to 10"), (RX9, 298, "there is no such index"), (RX9, 307, "there is no such delivery"), (RX9, 315, "the letter does not wait"), (RX9, 320, "the letter still waits when day 365 is today"), (RX9, 322, "so many days cannot go by"), (RX9, 336, "there is no such account"), (RX9, 338, "there is no such reason"), (RX9, 345, "no letter was delivered"), (RX9, 352, "no change is kept"), (RX9, 360, "there is no snapshot"), (RX9, 365, "there is no such house"), (RX9, 367, "there is no such person"), (RX9, 369, "there is no such letter"), (RX9, 371, "there is no such day"), (RX9, 373, "the days are not in ascending order from 0 to 365"), (RX9, 377, "refused, see refusal")]
def pm_dcl : List MethodName := [⟨"java/lang/RuntimeException", "<init>", "()V"⟩, ⟨"java/lang/RuntimeException", "<init>", "(Ljava/lang/String;)V"⟩, ⟨"java/lang/Exception", "<init>", "()V"⟩, ⟨"java/lang/Exception", "<init>", "(Ljava/lang/String;)V"⟩, ⟨"java/lang/Throwable", "<init>", "()V"⟩, ⟨"java/lang/Throwable", "<init>", "(Ljava/lang/String;)V"⟩, ⟨"java/lang/IndexOutOfBoundsException", "<init>", "()V"⟩, ⟨"java/lang/IndexOutOfBoundsException", "<init>", "(Ljava/lang/String;)V"⟩]
def pm_csl : List (String × String) := [("java/lang/IllegalArgumentException", "java/lang/IllegalArgumentException"), ("java/lang/IllegalStateException", "java/lang/IllegalStateException"), ("java/lang/IndexOutOfBoundsException", "java/lang/IndexOutOfBoundsException"), ("java/util/NoSuchElementException", "java/util/NoSuchElementException"), ("java/lang/ArithmeticException", "java/lang/ArithmeticException"), ("java/lang/UnsupportedOperationException", "java/lang/UnsupportedOperationException")]
def pm_ncl : List (String × String) := [("java/lang/ArithmeticException", "java/lang/IllegalArgumentException"), ("java/lang/ArithmeticException", "java/lang/IllegalStateException"), ("java/lang/ArithmeticException", "java/lang/IndexOutOfBoundsException"), ("java/lang/ArithmeticException", "java/lang/UnsupportedOperationException"), ("java/lang/ArithmeticException", "java/util/NoSuchElementException"), ("java/lang/IllegalArgumentException", "java/lang/ArithmeticException"), ("java/lang/IllegalArgumentException", "java/lang/IllegalStateException"), ("java/lang/IllegalArgumentException", "java/lang/IndexOutOfBoundsException"), ("java/lang/IllegalArgumentException", "java/lang/UnsupportedOperationException"), ("java/lang/IllegalArgumentException", "java/util/NoSuchElementException"), ("java/lang/IllegalStateException", "java/lang/ArithmeticException"), ("java/lang/IllegalStateException", "java/lang/IllegalArgumentException"), ("java/lang/IllegalStateException", "java/lang/IndexOutOfBoundsException"), ("java/lang/IllegalStateException", "java/lang/UnsupportedOperationException"), ("java/lang/IllegalStateException", "java/util/NoSuchElementException"), ("java/lang/IndexOutOfBoundsException", "java/lang/ArithmeticException"), ("java/lang/IndexOutOfBoundsException", "java/lang/IllegalArgumentException"), ("java/lang/IndexOutOfBoundsException", "java/lang/IllegalStateException"), ("java/lang/IndexOutOfBoundsException", "java/lang/UnsupportedOperationException"), ("java/lang/IndexOutOfBoundsException", "java/util/NoSuchElementException"), ("java/lang/UnsupportedOperationException", "java/lang/ArithmeticException"), ("java/lang/UnsupportedOperationException", "java/lang/IllegalArgumentException"), ("java/lang/UnsupportedOperationException", "java/lang/IllegalStateException"), ("java/lang/UnsupportedOperationException", "java/lang/IndexOutOfBoundsException"), ("java/lang/UnsupportedOperationException", "java/util/NoSuchElementException"), ("java/util/NoSuchElementException", "java/lang/ArithmeticException"), ("java/util/NoSuchElementException", "java/lang/IllegalArgumentException"), ("java/util/NoSuchElementException", "java/lang/IllegalStateException"), ("java/util/NoSuchElementException", "java/lang/IndexOutOfBoundsException"), ("java/util/NoSuchElementException", "java/lang/UnsupportedOperationException")]
abbrev pm_Tg : Type := (Option Value → pm_Mm → Prop) × (String → pm_Mm → Prop) × (State → (Nat → Prop) → (Nat → Nat) → Prop)
/-- what a builder's code reads of statics; an array of offices can be made -/
def pm_ZB (A : Nat → Prop) (U : State) (H : Heap) : Prop := va_AO RX5 U ∧ va_Z RJ0 "COMPACT_STRINGS" "Z" (.int 1) A U H ∧ va_Zq RJ3 "SIOOBE_FORMATTER" "Ljava/util/function/BiFunction;" A U H ∧ (∃ t, va_Z RJ6 "DigitOnes" "[B" (.ref t) A U H ∧ va_T .byte t 100 (fun j => .int (nI (48 + j % 10))) A U H) ∧ (∃ t, va_Z RJ6 "DigitTens" "[B" (.ref t) A U H ∧ va_T .byte t 100 (fun j => .int (nI (48 + j / 10))) A U H)
theorem pm_ZB.go {A B : Nat → Prop} {u U : State} {H H1 : Heap} (h : pm_ZB A u H) (hvm : u.vm.Alike U.vm) (hq : ∀ a : Nat, a < H.size → ¬ A a → H1[a]? = H[a]?) (hAB : ∀ q, B q → A q) : pm_ZB B U H1 := by
  obtain ⟨h1, h2, h3, ⟨t4, h4, h5⟩, ⟨t6, h6, h7⟩⟩ := h
  exact ⟨va_AO.moved hvm h1, (va_Z.moved hvm (h2.kept hq)).narrow hAB, (va_Zq.moved hvm (h3.kept hq)).narrow hAB, ⟨t4, (va_Z.moved hvm (h4.kept hq)).narrow hAB, (va_T.moved hvm (h5.kept hq)).narrow hAB⟩, ⟨t6, (va_Z.moved hvm (h6.kept hq)).narrow hAB, (va_T.moved hvm (h7.kept hq)).narrow hAB⟩⟩
/-- what stays over a whole body -/
def pm_St0 (s : State) (A : Nat → Prop) (D : va_G) (tc : Nat → ClassId) : Prop :=
  va_K D pm_cl (pm_tys tc) s ∧ (∀ q ∈ pm_nwl, va_Nw (.methodLinkNest q.1 q.2.1 q.2.2.1 q.2.2.2) s) ∧ (∀ q ∈ pm_stl, ∃ sa, vk_R q.1 q.2.1 q.2.2 sa s) ∧ (∀ q ∈ pm_csl, va_Nw (.castable q.1 q.2) s) ∧ (∀ y ∈ pm_dcl, va_Nw (.declares y) s) ∧ (∀ q ∈ pm_ncl, va_Nc q.1 q.2 s) ∧ vx_Zq Bundle.tN "UNASSIGNED_STACK" Bundle.steD A s s.heap ∧ (vx_Zq Bundle.tN "SUPPRESSED_SENTINEL" Bundle.listD A s s.heap ∧ pm_ZB A s s.heap)
def pm_Ok (mi : pm_Mi) (T : pm_Tg) (p : Program) (l : Launch) (s : State) (m : MethodId) (args : Array Value) (meth : Method) (c : Code) (D : va_G) (tc : Nat → ClassId) (ad : Nat → Nat) (A : Nat → Prop) : Prop :=
  p.tables.exec = Jvm.exec ∧ c.code = pm_cc mi ∧ c.maxLocals = pm_nL mi ∧ s.vm.findClass (pm_R (pm_id mi)) = some m.cls ∧ (∀ w ∈ pm_good, w.before args s = true) ∧ meth.sig.returnType = pm_rt mi ∧ meth.locks = false ∧ l.stackTraces = false ∧ pm_St0 s A D tc ∧ (∀ q, s.heap.size ≤ q → A q) ∧ c.exceptionTable.toList = tableOf (pm_hh mi) ∧ T.2.2 s A ad
def pm_Pc (D : va_G) (tc : Nat → ClassId) (ad : Nat → Nat) (sz : Nat) (A : Nat → Prop) (av : List Value) (μ : pm_Mm) : Array Value → State → Prop :=
  va_Pc (av.map (pm_rv ad)) (fun U => U.heap.size = sz ∧ va_P D pm_cl (pm_ws tc ad μ) U.heap ∧ va_D (fun _ => True) (pm_ws tc ad μ) ∧ pm_St0 U A D tc)
def pm_Qc (D : va_G) (tc : Nat → ClassId) (ad : Nat → Nat) (A : Nat → Prop) (P : Option Value → pm_Mm → Prop) : Array Value → State → Outcome → State → Prop :=
  fun _ st o t => (∃ (v : Option Value) (μ : pm_Mm), o = .returned (v.map (pm_rv ad)) ∧ P v μ ∧ va_P D pm_cl (pm_ws tc ad μ) t.heap ∧ va_D A (pm_ws tc ad μ)) ∧ va_F A st t
def pm_XC (D : va_G) (tc : Nat → ClassId) (ad : Nat → Nat) (A : Nat → Prop) (X : String → pm_Mm → Prop) : String → State → State → Prop :=
  fun E st t => (∃ μ : pm_Mm, X E μ ∧ va_P D pm_cl (pm_ws tc ad μ) t.heap ∧ va_D A (pm_ws tc ad μ)) ∧ va_F A st t
/-- the machine, standing at pc over this memory, comes to its end as T says -/
def pm_V (mi : pm_Mi) (T : pm_Tg) (kc ks : Nat) (pc : Nat) (lo : List (Option Value)) (st : List Value) (μ : pm_Mm) : Prop :=
  ∀ (p : Program) (l : Launch) (e : Env) (s : State) (m : MethodId) (args : Array Value) (below : List Frame) (meth : Method) (c : Code) (D : va_G) (tc : Nat → ClassId) (ad : Nat → Nat) (A : Nat → Prop),
    pm_Ok mi T p l s m args meth c D tc ad A → ∀ (H : Heap) (locs : List Loc) (cells slots : Nat) (ls : Array Slot), cells ≤ kc → slots ≤ ks →
      va_P D pm_cl (pm_ws tc ad μ) H → va_D A (pm_ws tc ad μ) → va_S A s.heap H locs → pm_LV ad ls (pm_nL mi) lo →
      W p l e (pm_rm mi) s m args below meth c H locs cells slots (vx_MQ below (pm_Qc D tc ad A T.1) (pm_XC D tc ad A T.2.1) args s (pm_rm mi).cells (pm_rm mi).slots A) (F0 m pc ls (st.map (pm_rv ad)))
theorem pm_V.drop {mi : pm_Mi} {T : pm_Tg} {kc ks pc : Nat} {lo lo' : List (Option Value)} {st : List Value} {μ : pm_Mm} (hl : pm_le lo' lo) (k : pm_V mi T kc ks pc lo' st μ) : pm_V mi T kc ks pc lo st μ :=
  fun p l e s m args below meth c D tc ad A hO H locs cells slots ls hc hs hP hD hS hlv => k p l e s m args below meth c D tc ad A hO H locs cells slots ls hc hs hP hD hS (hlv.le hl)
theorem pm_V.grow {mi : pm_Mi} {T : pm_Tg} {kc ks kc' ks' pc : Nat} {lo : List (Option Value)} {st : List Value} {μ : pm_Mm} (h1 : kc ≤ kc') (h2 : ks ≤ ks') (k : pm_V mi T kc' ks' pc lo st μ) : pm_V mi T kc ks pc lo st μ :=
  fun p l e s m args below meth c D tc ad A hO H locs cells slots ls hc hs hP hD hS hlv => k p l e s m args below meth c D tc ad A hO H locs cells slots ls (Nat.le_trans hc h1) (Nat.le_trans hs h2) hP hD hS hlv
