/-! every step of the flat machine is one of the machine -/
theorem pm_fs_set {ad : Nat → Nat} {μ : pm_Mm} {r fk : Nat} {x : Int32} {fs : List (Option Nat)} (hk : fs[fk]? = some none) : (fs.mapIdx (fun k o => match o with | some r => Value.ref (ad r) | none => Value.int (μ.1 r k))).set fk (.int x) = fs.mapIdx (fun k o => match o with | some r => Value.ref (ad r) | none => Value.int ((pm_set μ r fk x).1 r k)) := by
  apply List.ext_getElem?
  intro i
  by_cases hi : i = fk
  · subst hi
    rw [List.getElem?_set_self (by rw [List.length_mapIdx]; exact (List.getElem?_eq_some_iff.mp hk).1), List.getElem?_mapIdx, hk]
    simp [pm_set]
  · rw [List.getElem?_set_ne (fun q => hi q.symm), List.getElem?_mapIdx, List.getElem?_mapIdx]
    cases fs[i]? with
    | none => rfl
    | some y =>
      cases y with
      | none => simp [pm_set, hi]
      | some z => rfl
theorem pm_cl_all : pm_sh.all (fun x => match x with | .inr (ci, _) => Nat.blt ci 11 | _ => true) = true := by decide +kernel
theorem pm_cl_lt {r ci : Nat} {fs : List (Option Nat)} (h : pm_sh[r]? = some (.inr (ci, fs))) : ci < 11 := by
  have h1 := List.all_eq_true.mp pm_cl_all _ (List.mem_of_getElem? h)
  exact Nat.blt_eq.mp h1
theorem pm_one : (List.range 408).all (fun i => (match pm_sh[i]? with | some (.inl (2, _)) => i == 55 | some (.inl (3, _)) => i == 56 | _ => true)) = true := by decide +kernel
theorem pm_is2 {i n : Nat} (h : pm_sh[i]? = some (.inl (2, n))) : i = 55 := by
  have hi : i < pm_sh.length := (List.getElem?_eq_some_iff.mp h).1
  rw [pm_sh_n] at hi
  have h1 := List.all_eq_true.mp pm_one i (List.mem_range.mpr hi)
  simp only [h, beq_iff_eq] at h1
  exact h1
theorem pm_is3 {i n : Nat} (h : pm_sh[i]? = some (.inl (3, n))) : i = 56 := by
  have hi : i < pm_sh.length := (List.getElem?_eq_some_iff.mp h).1
  rw [pm_sh_n] at hi
  have h1 := List.all_eq_true.mp pm_one i (List.mem_range.mpr hi)
  simp only [h, beq_iff_eq] at h1
  exact h1
theorem pm_ce_noL {tc : Nat → ClassId} {ad : Nat → Nat} {μ : pm_Mm} {i k : Nat} {v : Int64} {y : pm_Sh} (hi : i ≠ 55) (hy : pm_sh[i]? = some y) : pm_ce tc ad (pm_setL μ k v) i y = pm_ce tc ad μ i y := by
  unfold pm_ce
  split <;> first | rfl | exact absurd (pm_is2 hy) hi
theorem pm_ce_noD {tc : Nat → ClassId} {ad : Nat → Nat} {μ : pm_Mm} {i k : Nat} {v : UInt64} {y : pm_Sh} (hi : i ≠ 56) (hy : pm_sh[i]? = some y) : pm_ce tc ad (pm_setD μ k v) i y = pm_ce tc ad μ i y := by
  unfold pm_ce
  split <;> first | rfl | exact absurd (pm_is3 hy) hi
section PMS
variable {mi : pm_Mi} {T : pm_Tg} {kc ks pc : Nat} {lo : List (Option Value)} {st : List Value} {μ : pm_Mm}
theorem pm_s_aload_n {j : Fin 4} {a : Nat} {x : Nat} (hd : decode (pm_cc mi) pc = .ok (.aload_n j, 1)) (ha : (j : Nat) = a) (hl : lo[a]? = some (some (.ref x))) (k : pm_V mi T kc ks (pc + 1) lo (.ref x :: st) μ) : pm_V mi T kc ks pc lo st μ := by
  intro p l e s m args below meth c D tc ad A hO H locs cells slots ls hc hs hP hD hS hlv
  obtain ⟨hx, hb, hml, hown, hts, hr, hlk, htr, hst, hA, htab, hZ⟩ := id hO
  obtain ⟨hK, hNw, hStr, hCs, hDc, hNc, hU, hN⟩ := id hst
  exact lv_aload_n hx hb hd ha (hlv.2.2 _ _ hl) (k p l e s m args below meth c D tc ad A hO H locs cells slots ls hc hs hP hD hS hlv)
theorem pm_s_iload_n {j : Fin 4} {a : Nat} {x : Int32} (hd : decode (pm_cc mi) pc = .ok (.iload_n j, 1)) (ha : (j : Nat) = a) (hl : lo[a]? = some (some (.int x))) (k : pm_V mi T kc ks (pc + 1) lo (.int x :: st) μ) : pm_V mi T kc ks pc lo st μ := by
  intro p l e s m args below meth c D tc ad A hO H locs cells slots ls hc hs hP hD hS hlv
  obtain ⟨hx, hb, hml, hown, hts, hr, hlk, htr, hst, hA, htab, hZ⟩ := id hO
  obtain ⟨hK, hNw, hStr, hCs, hDc, hNc, hU, hN⟩ := id hst
  exact lv_iload_n hx hb hd ha (hlv.2.2 _ _ hl) (k p l e s m args below meth c D tc ad A hO H locs cells slots ls hc hs hP hD hS hlv)
theorem pm_s_aload {a : Nat} {x : Nat} (hd : decode (pm_cc mi) pc = .ok (.aload a, 2)) (hl : lo[a]? = some (some (.ref x))) (k : pm_V mi T kc ks (pc + 2) lo (.ref x :: st) μ) : pm_V mi T kc ks pc lo st μ := by
  intro p l e s m args below meth c D tc ad A hO H locs cells slots ls hc hs hP hD hS hlv
  obtain ⟨hx, hb, hml, hown, hts, hr, hlk, htr, hst, hA, htab, hZ⟩ := id hO
  obtain ⟨hK, hNw, hStr, hCs, hDc, hNc, hU, hN⟩ := id hst
  exact lv_aload hx hb hd (hlv.2.2 _ _ hl) (k p l e s m args below meth c D tc ad A hO H locs cells slots ls hc hs hP hD hS hlv)
theorem pm_s_iload {a : Nat} {x : Int32} (hd : decode (pm_cc mi) pc = .ok (.iload a, 2)) (hl : lo[a]? = some (some (.int x))) (k : pm_V mi T kc ks (pc + 2) lo (.int x :: st) μ) : pm_V mi T kc ks pc lo st μ := by
  intro p l e s m args below meth c D tc ad A hO H locs cells slots ls hc hs hP hD hS hlv
  obtain ⟨hx, hb, hml, hown, hts, hr, hlk, htr, hst, hA, htab, hZ⟩ := id hO
  obtain ⟨hK, hNw, hStr, hCs, hDc, hNc, hU, hN⟩ := id hst
  exact lv_iload hx hb hd (hlv.2.2 _ _ hl) (k p l e s m args below meth c D tc ad A hO H locs cells slots ls hc hs hP hD hS hlv)
theorem pm_s_istore_n {j : Fin 4} {a : Nat} {x : Int32} (hd : decode (pm_cc mi) pc = .ok (.istore_n j, 1)) (ha : (j : Nat) = a) (hn : a < pm_nL mi) (h1 : pm_c1 lo a = true) (h2 : a < lo.length) (k : pm_V mi T kc ks (pc + 1) (lo.set a (some (.int x))) st μ) : pm_V mi T kc ks pc lo (.int x :: st) μ := by
  intro p l e s m args below meth c D tc ad A hO H locs cells slots ls hc hs hP hD hS hlv
  obtain ⟨hx, hb, hml, hown, hts, hr, hlk, htr, hst, hA, htab, hZ⟩ := id hO
  obtain ⟨hK, hNw, hStr, hCs, hDc, hNc, hU, hN⟩ := id hst
  exact lv_istore_n hx hb hd ha hlv.has hn rfl (fun ls2 hl2 => k p l e s m args below meth c D tc ad A hO H locs cells slots ls2 hc hs hP hD hS (pm_LV.sto h1 h2 hl2))
theorem pm_s_astore_n {j : Fin 4} {a : Nat} {x : Nat} (hd : decode (pm_cc mi) pc = .ok (.astore_n j, 1)) (ha : (j : Nat) = a) (hn : a < pm_nL mi) (h1 : pm_c1 lo a = true) (h2 : a < lo.length) (k : pm_V mi T kc ks (pc + 1) (lo.set a (some (.ref x))) st μ) : pm_V mi T kc ks pc lo (.ref x :: st) μ := by
  intro p l e s m args below meth c D tc ad A hO H locs cells slots ls hc hs hP hD hS hlv
  obtain ⟨hx, hb, hml, hown, hts, hr, hlk, htr, hst, hA, htab, hZ⟩ := id hO
  obtain ⟨hK, hNw, hStr, hCs, hDc, hNc, hU, hN⟩ := id hst
  exact lv_astore_n hx hb hd ha hlv.has hn rfl (fun ls2 hl2 => k p l e s m args below meth c D tc ad A hO H locs cells slots ls2 hc hs hP hD hS (pm_LV.sto h1 h2 hl2))
theorem pm_s_istore {a : Nat} {x : Int32} (hd : decode (pm_cc mi) pc = .ok (.istore a, 2)) (hn : a < pm_nL mi) (h1 : pm_c1 lo a = true) (h2 : a < lo.length) (k : pm_V mi T kc ks (pc + 2) (lo.set a (some (.int x))) st μ) : pm_V mi T kc ks pc lo (.int x :: st) μ := by
  intro p l e s m args below meth c D tc ad A hO H locs cells slots ls hc hs hP hD hS hlv
  obtain ⟨hx, hb, hml, hown, hts, hr, hlk, htr, hst, hA, htab, hZ⟩ := id hO
  obtain ⟨hK, hNw, hStr, hCs, hDc, hNc, hU, hN⟩ := id hst
  exact lv_istore hx hb hd hlv.has hn rfl (fun ls2 hl2 => k p l e s m args below meth c D tc ad A hO H locs cells slots ls2 hc hs hP hD hS (pm_LV.sto h1 h2 hl2))
theorem pm_s_astore {a : Nat} {x : Nat} (hd : decode (pm_cc mi) pc = .ok (.astore a, 2)) (hn : a < pm_nL mi) (h1 : pm_c1 lo a = true) (h2 : a < lo.length) (k : pm_V mi T kc ks (pc + 2) (lo.set a (some (.ref x))) st μ) : pm_V mi T kc ks pc lo (.ref x :: st) μ := by
  intro p l e s m args below meth c D tc ad A hO H locs cells slots ls hc hs hP hD hS hlv
  obtain ⟨hx, hb, hml, hown, hts, hr, hlk, htr, hst, hA, htab, hZ⟩ := id hO
  obtain ⟨hK, hNw, hStr, hCs, hDc, hNc, hU, hN⟩ := id hst
  exact lv_astore hx hb hd hlv.has hn rfl (fun ls2 hl2 => k p l e s m args below meth c D tc ad A hO H locs cells slots ls2 hc hs hP hD hS (pm_LV.sto h1 h2 hl2))
theorem pm_s_iinc {a : Nat} {z : Int} {x v : Int32} (hd : decode (pm_cc mi) pc = .ok (.iinc a z, 3)) (hv : Int32.ofInt z = v) (hl : lo[a]? = some (some (.int x))) (hn : a < pm_nL mi) (h1 : pm_c1 lo a = true) (h2 : a < lo.length) (k : pm_V mi T kc ks (pc + 3) (lo.set a (some (.int (x + v)))) st μ) : pm_V mi T kc ks pc lo st μ := by
  intro p l e s m args below meth c D tc ad A hO H locs cells slots ls hc hs hP hD hS hlv
  obtain ⟨hx, hb, hml, hown, hts, hr, hlk, htr, hst, hA, htab, hZ⟩ := id hO
  obtain ⟨hK, hNw, hStr, hCs, hDc, hNc, hU, hN⟩ := id hst
  obtain ⟨kk, hkk⟩ := List.getElem?_of_mem (pm_as_mem (ad := ad) (lo := lo) (q := (a, .int x)) |>.mpr ⟨.int x, hl, rfl⟩)
  exact lv_iinc hx hb hd hlv.has hkk (by rw [hv]) hn rfl (fun ls2 hl2 => k p l e s m args below meth c D tc ad A hO H locs cells slots ls2 hc hs hP hD hS (pm_LV.sto h1 h2 hl2))
theorem pm_s_iconst {z : Int} {v : Int32} (hv : Int32.ofInt z = v) (hd : decode (pm_cc mi) pc = .ok (.iconst z, 1)) (k : pm_V mi T kc ks (pc + 1) lo (.int v :: st) μ) : pm_V mi T kc ks pc lo (st) μ := by
  intro p l e s m args below meth c D tc ad A hO H locs cells slots ls hc hs hP hD hS hlv
  obtain ⟨hx, hb, hml, hown, hts, hr, hlk, htr, hst, hA, htab, hZ⟩ := id hO
  obtain ⟨hK, hNw, hStr, hCs, hDc, hNc, hU, hN⟩ := id hst
  exact lv_iconst hx hb hd hv (k p l e s m args below meth c D tc ad A hO H locs cells slots ls hc hs hP hD hS hlv)
theorem pm_s_bipush {z : Int} {v : Int32} (hv : (Int8.ofInt z).toInt32 = v) (hd : decode (pm_cc mi) pc = .ok (.bipush z, 2)) (k : pm_V mi T kc ks (pc + 2) lo (.int v :: st) μ) : pm_V mi T kc ks pc lo (st) μ := by
  intro p l e s m args below meth c D tc ad A hO H locs cells slots ls hc hs hP hD hS hlv
  obtain ⟨hx, hb, hml, hown, hts, hr, hlk, htr, hst, hA, htab, hZ⟩ := id hO
  obtain ⟨hK, hNw, hStr, hCs, hDc, hNc, hU, hN⟩ := id hst
  exact lv_bipush hx hb hd hv (k p l e s m args below meth c D tc ad A hO H locs cells slots ls hc hs hP hD hS hlv)
theorem pm_s_sipush {z : Int} {v : Int32} (hv : (Int16.ofInt z).toInt32 = v) (hd : decode (pm_cc mi) pc = .ok (.sipush z, 3)) (k : pm_V mi T kc ks (pc + 3) lo (.int v :: st) μ) : pm_V mi T kc ks pc lo (st) μ := by
  intro p l e s m args below meth c D tc ad A hO H locs cells slots ls hc hs hP hD hS hlv
  obtain ⟨hx, hb, hml, hown, hts, hr, hlk, htr, hst, hA, htab, hZ⟩ := id hO
  obtain ⟨hK, hNw, hStr, hCs, hDc, hNc, hU, hN⟩ := id hst
  exact lv_sipush hx hb hd hv (k p l e s m args below meth c D tc ad A hO H locs cells slots ls hc hs hP hD hS hlv)
theorem pm_s_iadd {x y : Int32} (hd : decode (pm_cc mi) pc = .ok (.iadd, 1)) (k : pm_V mi T kc ks (pc + 1) lo (.int (x + y) :: st) μ) : pm_V mi T kc ks pc lo (.int y :: .int x :: st) μ := by
  intro p l e s m args below meth c D tc ad A hO H locs cells slots ls hc hs hP hD hS hlv
  obtain ⟨hx, hb, hml, hown, hts, hr, hlk, htr, hst, hA, htab, hZ⟩ := id hO
  obtain ⟨hK, hNw, hStr, hCs, hDc, hNc, hU, hN⟩ := id hst
  exact lv_iadd hx hb hd  (k p l e s m args below meth c D tc ad A hO H locs cells slots ls hc hs hP hD hS hlv)
theorem pm_s_isub {x y : Int32} (hd : decode (pm_cc mi) pc = .ok (.isub, 1)) (k : pm_V mi T kc ks (pc + 1) lo (.int (x - y) :: st) μ) : pm_V mi T kc ks pc lo (.int y :: .int x :: st) μ := by
  intro p l e s m args below meth c D tc ad A hO H locs cells slots ls hc hs hP hD hS hlv
  obtain ⟨hx, hb, hml, hown, hts, hr, hlk, htr, hst, hA, htab, hZ⟩ := id hO
  obtain ⟨hK, hNw, hStr, hCs, hDc, hNc, hU, hN⟩ := id hst
  exact lv_isub hx hb hd  (k p l e s m args below meth c D tc ad A hO H locs cells slots ls hc hs hP hD hS hlv)
theorem pm_s_imul {x y : Int32} (hd : decode (pm_cc mi) pc = .ok (.imul, 1)) (k : pm_V mi T kc ks (pc + 1) lo (.int (x * y) :: st) μ) : pm_V mi T kc ks pc lo (.int y :: .int x :: st) μ := by
  intro p l e s m args below meth c D tc ad A hO H locs cells slots ls hc hs hP hD hS hlv
  obtain ⟨hx, hb, hml, hown, hts, hr, hlk, htr, hst, hA, htab, hZ⟩ := id hO
  obtain ⟨hK, hNw, hStr, hCs, hDc, hNc, hU, hN⟩ := id hst
  exact lv_imul hx hb hd  (k p l e s m args below meth c D tc ad A hO H locs cells slots ls hc hs hP hD hS hlv)
theorem pm_s_iand {x y : Int32} (hd : decode (pm_cc mi) pc = .ok (.iand, 1)) (k : pm_V mi T kc ks (pc + 1) lo (.int (x &&& y) :: st) μ) : pm_V mi T kc ks pc lo (.int y :: .int x :: st) μ := by
  intro p l e s m args below meth c D tc ad A hO H locs cells slots ls hc hs hP hD hS hlv
  obtain ⟨hx, hb, hml, hown, hts, hr, hlk, htr, hst, hA, htab, hZ⟩ := id hO
  obtain ⟨hK, hNw, hStr, hCs, hDc, hNc, hU, hN⟩ := id hst
  exact lv_iand hx hb hd  (k p l e s m args below meth c D tc ad A hO H locs cells slots ls hc hs hP hD hS hlv)
theorem pm_s_ior {x y : Int32} (hd : decode (pm_cc mi) pc = .ok (.ior, 1)) (k : pm_V mi T kc ks (pc + 1) lo (.int (x ||| y) :: st) μ) : pm_V mi T kc ks pc lo (.int y :: .int x :: st) μ := by
  intro p l e s m args below meth c D tc ad A hO H locs cells slots ls hc hs hP hD hS hlv
  obtain ⟨hx, hb, hml, hown, hts, hr, hlk, htr, hst, hA, htab, hZ⟩ := id hO
  obtain ⟨hK, hNw, hStr, hCs, hDc, hNc, hU, hN⟩ := id hst
  exact lv_ior hx hb hd  (k p l e s m args below meth c D tc ad A hO H locs cells slots ls hc hs hP hD hS hlv)
theorem pm_s_ixor {x y : Int32} (hd : decode (pm_cc mi) pc = .ok (.ixor, 1)) (k : pm_V mi T kc ks (pc + 1) lo (.int (x ^^^ y) :: st) μ) : pm_V mi T kc ks pc lo (.int y :: .int x :: st) μ := by
  intro p l e s m args below meth c D tc ad A hO H locs cells slots ls hc hs hP hD hS hlv
  obtain ⟨hx, hb, hml, hown, hts, hr, hlk, htr, hst, hA, htab, hZ⟩ := id hO
  obtain ⟨hK, hNw, hStr, hCs, hDc, hNc, hU, hN⟩ := id hst
  exact lv_ixor hx hb hd  (k p l e s m args below meth c D tc ad A hO H locs cells slots ls hc hs hP hD hS hlv)
theorem pm_s_ishl {x y : Int32} (hd : decode (pm_cc mi) pc = .ok (.ishl, 1)) (k : pm_V mi T kc ks (pc + 1) lo (.int (x <<< (y &&& 31)) :: st) μ) : pm_V mi T kc ks pc lo (.int y :: .int x :: st) μ := by
  intro p l e s m args below meth c D tc ad A hO H locs cells slots ls hc hs hP hD hS hlv
  obtain ⟨hx, hb, hml, hown, hts, hr, hlk, htr, hst, hA, htab, hZ⟩ := id hO
  obtain ⟨hK, hNw, hStr, hCs, hDc, hNc, hU, hN⟩ := id hst
  exact lv_ishl hx hb hd  (k p l e s m args below meth c D tc ad A hO H locs cells slots ls hc hs hP hD hS hlv)
theorem pm_s_ishr {x y : Int32} (hd : decode (pm_cc mi) pc = .ok (.ishr, 1)) (k : pm_V mi T kc ks (pc + 1) lo (.int (x >>> (y &&& 31)) :: st) μ) : pm_V mi T kc ks pc lo (.int y :: .int x :: st) μ := by
  intro p l e s m args below meth c D tc ad A hO H locs cells slots ls hc hs hP hD hS hlv
  obtain ⟨hx, hb, hml, hown, hts, hr, hlk, htr, hst, hA, htab, hZ⟩ := id hO
  obtain ⟨hK, hNw, hStr, hCs, hDc, hNc, hU, hN⟩ := id hst
  exact lv_ishr hx hb hd  (k p l e s m args below meth c D tc ad A hO H locs cells slots ls hc hs hP hD hS hlv)
theorem pm_s_irem {x y : Int32} (hne : ¬ y = 0) (hd : decode (pm_cc mi) pc = .ok (.irem, 1)) (k : pm_V mi T kc ks (pc + 1) lo (.int (x - x / y * y) :: st) μ) : pm_V mi T kc ks pc lo (.int y :: .int x :: st) μ := by
  intro p l e s m args below meth c D tc ad A hO H locs cells slots ls hc hs hP hD hS hlv
  obtain ⟨hx, hb, hml, hown, hts, hr, hlk, htr, hst, hA, htab, hZ⟩ := id hO
  obtain ⟨hK, hNw, hStr, hCs, hDc, hNc, hU, hN⟩ := id hst
  exact lv_irem hx hb hd hne (k p l e s m args below meth c D tc ad A hO H locs cells slots ls hc hs hP hD hS hlv)
theorem pm_s_idiv {x y : Int32} (hne : ¬ y = 0) (hd : decode (pm_cc mi) pc = .ok (.idiv, 1)) (k : pm_V mi T kc ks (pc + 1) lo (.int (x / y) :: st) μ) : pm_V mi T kc ks pc lo (.int y :: .int x :: st) μ := by
  intro p l e s m args below meth c D tc ad A hO H locs cells slots ls hc hs hP hD hS hlv
  obtain ⟨hx, hb, hml, hown, hts, hr, hlk, htr, hst, hA, htab, hZ⟩ := id hO
  obtain ⟨hK, hNw, hStr, hCs, hDc, hNc, hU, hN⟩ := id hst
  exact lv_idiv hx hb hd hne (k p l e s m args below meth c D tc ad A hO H locs cells slots ls hc hs hP hD hS hlv)
theorem pm_s_i2l {x : Int32} (hd : decode (pm_cc mi) pc = .ok (.i2l, 1)) (k : pm_V mi T kc ks (pc + 1) lo (.long x.toInt64 :: st) μ) : pm_V mi T kc ks pc lo (.int x :: st) μ := by
  intro p l e s m args below meth c D tc ad A hO H locs cells slots ls hc hs hP hD hS hlv
  obtain ⟨hx, hb, hml, hown, hts, hr, hlk, htr, hst, hA, htab, hZ⟩ := id hO
  obtain ⟨hK, hNw, hStr, hCs, hDc, hNc, hU, hN⟩ := id hst
  exact lv_i2l hx hb hd rfl (k p l e s m args below meth c D tc ad A hO H locs cells slots ls hc hs hP hD hS hlv)
theorem pm_s_i2c {x : Int32} (hd : decode (pm_cc mi) pc = .ok (.i2c, 1)) (k : pm_V mi T kc ks (pc + 1) lo (.int (x.toUInt32 % 65536).toInt32 :: st) μ) : pm_V mi T kc ks pc lo (.int x :: st) μ := by
  intro p l e s m args below meth c D tc ad A hO H locs cells slots ls hc hs hP hD hS hlv
  obtain ⟨hx, hb, hml, hown, hts, hr, hlk, htr, hst, hA, htab, hZ⟩ := id hO
  obtain ⟨hK, hNw, hStr, hCs, hDc, hNc, hU, hN⟩ := id hst
  exact lv_i2c hx hb hd rfl (k p l e s m args below meth c D tc ad A hO H locs cells slots ls hc hs hP hD hS hlv)
theorem pm_s_i2d {x : Int32} (hd : decode (pm_cc mi) pc = .ok (.i2d, 1)) (k : pm_V mi T kc ks (pc + 1) lo (.double (FP.i2d x) :: st) μ) : pm_V mi T kc ks pc lo (.int x :: st) μ := by
  intro p l e s m args below meth c D tc ad A hO H locs cells slots ls hc hs hP hD hS hlv
  obtain ⟨hx, hb, hml, hown, hts, hr, hlk, htr, hst, hA, htab, hZ⟩ := id hO
  obtain ⟨hK, hNw, hStr, hCs, hDc, hNc, hU, hN⟩ := id hst
  exact lv_i2d hx hb hd  (k p l e s m args below meth c D tc ad A hO H locs cells slots ls hc hs hP hD hS hlv)
theorem pm_s_dupi {x : Int32} (hd : decode (pm_cc mi) pc = .ok (.dup, 1)) (k : pm_V mi T kc ks (pc + 1) lo (.int x :: .int x :: st) μ) : pm_V mi T kc ks pc lo (.int x :: st) μ := by
  intro p l e s m args below meth c D tc ad A hO H locs cells slots ls hc hs hP hD hS hlv
  obtain ⟨hx, hb, hml, hown, hts, hr, hlk, htr, hst, hA, htab, hZ⟩ := id hO
  obtain ⟨hK, hNw, hStr, hCs, hDc, hNc, hU, hN⟩ := id hst
  exact lv_dup hx hb hd rfl (k p l e s m args below meth c D tc ad A hO H locs cells slots ls hc hs hP hD hS hlv)
theorem pm_s_dupr {x : Nat} (hd : decode (pm_cc mi) pc = .ok (.dup, 1)) (k : pm_V mi T kc ks (pc + 1) lo (.ref x :: .ref x :: st) μ) : pm_V mi T kc ks pc lo (.ref x :: st) μ := by
  intro p l e s m args below meth c D tc ad A hO H locs cells slots ls hc hs hP hD hS hlv
  obtain ⟨hx, hb, hml, hown, hts, hr, hlk, htr, hst, hA, htab, hZ⟩ := id hO
  obtain ⟨hK, hNw, hStr, hCs, hDc, hNc, hU, hN⟩ := id hst
  exact lv_dup hx hb hd rfl (k p l e s m args below meth c D tc ad A hO H locs cells slots ls hc hs hP hD hS hlv)
theorem pm_s_dup2 {x : Int32} {y : Nat} (hd : decode (pm_cc mi) pc = .ok (.dup2, 1)) (k : pm_V mi T kc ks (pc + 1) lo (.int x :: .ref y :: .int x :: .ref y :: st) μ) : pm_V mi T kc ks pc lo (.int x :: .ref y :: st) μ := by
  intro p l e s m args below meth c D tc ad A hO H locs cells slots ls hc hs hP hD hS hlv
  obtain ⟨hx, hb, hml, hown, hts, hr, hlk, htr, hst, hA, htab, hZ⟩ := id hO
  obtain ⟨hK, hNw, hStr, hCs, hDc, hNc, hU, hN⟩ := id hst
  exact lv_dup2_11 hx hb hd rfl rfl (k p l e s m args below meth c D tc ad A hO H locs cells slots ls hc hs hP hD hS hlv)
theorem pm_s_popi {x : Int32} (hd : decode (pm_cc mi) pc = .ok (.pop, 1)) (k : pm_V mi T kc ks (pc + 1) lo (st) μ) : pm_V mi T kc ks pc lo (.int x :: st) μ := by
  intro p l e s m args below meth c D tc ad A hO H locs cells slots ls hc hs hP hD hS hlv
  obtain ⟨hx, hb, hml, hown, hts, hr, hlk, htr, hst, hA, htab, hZ⟩ := id hO
  obtain ⟨hK, hNw, hStr, hCs, hDc, hNc, hU, hN⟩ := id hst
  exact lv_pop hx hb hd rfl (k p l e s m args below meth c D tc ad A hO H locs cells slots ls hc hs hP hD hS hlv)
theorem pm_s_goto {off : Int} {tgt : Nat} (hd : decode (pm_cc mi) pc = .ok (.goto off, 3)) (ht : (pc : Int) + off = (tgt : Int)) (k : pm_V mi T kc ks tgt lo st μ) : pm_V mi T kc ks pc lo st μ := by
  intro p l e s m args below meth c D tc ad A hO H locs cells slots ls hc hs hP hD hS hlv
  obtain ⟨hx, hb, hml, hown, hts, hr, hlk, htr, hst, hA, htab, hZ⟩ := id hO
  obtain ⟨hK, hNw, hStr, hCs, hDc, hNc, hU, hN⟩ := id hst
  exact lv_goto hx hb hd ht (k p l e s m args below meth c D tc ad A hO H locs cells slots ls hc hs hP hD hS hlv)
theorem pm_s_getr {ix ci fk r r1 : Nat} {fs : List (Option Nat)} (hf : pm_fl.any (fun q => q.1 == pm_id mi && q.2.1 == ix && q.2.2.1 == ci && q.2.2.2.1 == fk) = true) (hs0 : pm_sh[r]? = some (.inr (ci, fs))) (hk : fs[fk]? = some (some r1)) (hd : decode (pm_cc mi) pc = .ok (.getfield ix, 3)) (k : pm_V mi T kc ks (pc + 3) lo (.ref r1 :: st) μ) : pm_V mi T kc ks pc lo (.ref r :: st) μ := by
  intro p l e s m args below meth c D tc ad A hO H locs cells slots ls hc hs hP hD hS hlv
  obtain ⟨hx, hb, hml, hown, hts, hr, hlk, htr, hst, hA, htab, hZ⟩ := id hO
  obtain ⟨hK, hNw, hStr, hCs, hDc, hNc, hU, hN⟩ := id hst
  obtain ⟨q, hq, hq2⟩ := List.any_eq_true.mp hf
  obtain ⟨q1, q2, q3, q4, q5⟩ := q
  simp only [Bool.and_eq_true, beq_iff_eq] at hq2
  obtain ⟨⟨⟨rfl, rfl⟩, rfl⟩, rfl⟩ := hq2
  obtain ⟨C, T', N, hc1, hk1, hl1, hC, -, -⟩ := pm_fl_ok _ hq
  obtain ⟨C2, T2, N2, ty, hc2, hin, hty, hnm⟩ := pm_cf q3 (pm_cl_lt hs0)
  cases Option.some.inj (hc1.symm.trans hc2)
  refine va_get (ref := C) hx hb hts hin hown hK hP r (pm_ws_get hs0) hc1 q4 hk1 (hts _ hl1) (fun x h => by rw [hC] at h; exact h) (v := .ref (ad r1)) ?_ hd (k p l e s m args below meth c D tc ad A hO H locs cells slots ls hc hs hP hD hS hlv)
  show (fs.mapIdx _)[q4]? = _
  rw [List.getElem?_mapIdx, hk]
  rfl
theorem pm_s_geti {ix ci fk r : Nat} {fs : List (Option Nat)} (hf : pm_fl.any (fun q => q.1 == pm_id mi && q.2.1 == ix && q.2.2.1 == ci && q.2.2.2.1 == fk) = true) (hs0 : pm_sh[r]? = some (.inr (ci, fs))) (hk : fs[fk]? = some none) (hd : decode (pm_cc mi) pc = .ok (.getfield ix, 3)) (k : pm_V mi T kc ks (pc + 3) lo (.int (μ.1 r fk) :: st) μ) : pm_V mi T kc ks pc lo (.ref r :: st) μ := by
  intro p l e s m args below meth c D tc ad A hO H locs cells slots ls hc hs hP hD hS hlv
  obtain ⟨hx, hb, hml, hown, hts, hr, hlk, htr, hst, hA, htab, hZ⟩ := id hO
  obtain ⟨hK, hNw, hStr, hCs, hDc, hNc, hU, hN⟩ := id hst
  obtain ⟨q, hq, hq2⟩ := List.any_eq_true.mp hf
  obtain ⟨q1, q2, q3, q4, q5⟩ := q
  simp only [Bool.and_eq_true, beq_iff_eq] at hq2
  obtain ⟨⟨⟨rfl, rfl⟩, rfl⟩, rfl⟩ := hq2
  obtain ⟨C, T', N, hc1, hk1, hl1, hC, -, -⟩ := pm_fl_ok _ hq
  obtain ⟨C2, T2, N2, ty, hc2, hin, hty, hnm⟩ := pm_cf q3 (pm_cl_lt hs0)
  cases Option.some.inj (hc1.symm.trans hc2)
  refine va_get (ref := C) hx hb hts hin hown hK hP r (pm_ws_get hs0) hc1 q4 hk1 (hts _ hl1) (fun x h => by rw [hC] at h; exact h) (v := .int (μ.1 r q4)) ?_ hd (k p l e s m args below meth c D tc ad A hO H locs cells slots ls hc hs hP hD hS hlv)
  show (fs.mapIdx _)[q4]? = _
  rw [List.getElem?_mapIdx, hk]
  rfl
theorem pm_s_puti {ix ci fk r : Nat} {x : Int32} {fs : List (Option Nat)} (hf : pm_fl.contains (pm_id mi, ix, ci, fk, 0) = true) (hs0 : pm_sh[r]? = some (.inr (ci, fs))) (hk : fs[fk]? = some none) (hd : decode (pm_cc mi) pc = .ok (.putfield ix, 3)) (k : pm_V mi T kc ks (pc + 3) lo st (pm_set μ r fk x)) : pm_V mi T kc ks pc lo (.int x :: .ref r :: st) μ := by
  intro p l e s m args below meth c D tc ad A hO H locs cells slots ls hc hs hP hD hS hlv
  obtain ⟨hx, hb, hml, hown, hts, hr, hlk, htr, hst, hA, htab, hZ⟩ := id hO
  obtain ⟨hK, hNw, hStr, hCs, hDc, hNc, hU, hN⟩ := id hst
  have hq := List.contains_iff_mem.mp hf
  obtain ⟨C, T', N, hc1, hk1, hl1, hC, hz0, hz1⟩ := pm_fl_ok _ hq
  obtain ⟨C2, T2, N2, ty, hc2, hin, hty, hnm⟩ := pm_cf ci (pm_cl_lt hs0)
  cases Option.some.inj (hc1.symm.trans hc2)
  obtain ⟨hz1a, hz1b⟩ := hz0 rfl
  refine va_put (ref := C) (ty := .int) (v := .int x) hx hb hts hin ty hty hnm hown hK hP hD hS r (pm_ws_get hs0) hc1 fk hk1 (hts _ hl1) (fun x h => by rw [hC] at h; exact h) hz1a (by rw [hz1b]; decide +kernel) ?_ ?_ ?_ hd (fun H2 locs2 hP2 hD2 hS2 => ?_)
  · rfl
  · rfl
  · show fk < (fs.mapIdx _).length
    rw [List.length_mapIdx]
    exact (List.getElem?_eq_some_iff.mp hk).1
  · have e1 : (pm_ws tc ad μ).set r (ad r, .inr (ci, (fs.mapIdx (fun k o => match o with | some r => Value.ref (ad r) | none => Value.int (μ.1 r k))).set fk (.int x))) = pm_ws tc ad (pm_set μ r fk x) := by
      rw [← pm_ws_set (tc := tc) (ad := ad) (μ := μ) (μ' := pm_set μ r fk x) hs0 rfl (fun i y hi _ => pm_ce_off (pm_set_off hi) rfl rfl)]
      congr 2
      show Sum.inr _ = Sum.inr _
      congr 2
      exact pm_fs_set hk
    exact k p l e s m args below meth c D tc ad A hO H2 locs2 cells slots ls hc hs (by rw [← e1]; exact hP2) (by rw [← e1]; exact hD2) hS2 hlv
theorem pm_s_putz {ix ci fk r : Nat} {x : Int32} {fs : List (Option Nat)} (hf : pm_fl.contains (pm_id mi, ix, ci, fk, 1) = true) (hb01 : x = 0 ∨ x = 1) (hs0 : pm_sh[r]? = some (.inr (ci, fs))) (hk : fs[fk]? = some none) (hd : decode (pm_cc mi) pc = .ok (.putfield ix, 3)) (k : pm_V mi T kc ks (pc + 3) lo st (pm_set μ r fk x)) : pm_V mi T kc ks pc lo (.int x :: .ref r :: st) μ := by
  intro p l e s m args below meth c D tc ad A hO H locs cells slots ls hc hs hP hD hS hlv
  obtain ⟨hx, hb, hml, hown, hts, hr, hlk, htr, hst, hA, htab, hZ⟩ := id hO
  obtain ⟨hK, hNw, hStr, hCs, hDc, hNc, hU, hN⟩ := id hst
  have hq := List.contains_iff_mem.mp hf
  obtain ⟨C, T', N, hc1, hk1, hl1, hC, hz0, hz1⟩ := pm_fl_ok _ hq
  obtain ⟨C2, T2, N2, ty, hc2, hin, hty, hnm⟩ := pm_cf ci (pm_cl_lt hs0)
  cases Option.some.inj (hc1.symm.trans hc2)
  obtain ⟨hz1a, hz1b⟩ := hz1 rfl
  refine va_put (ref := C) (ty := .boolean) (v := .int x) hx hb hts hin ty hty hnm hown hK hP hD hS r (pm_ws_get hs0) hc1 fk hk1 (hts _ hl1) (fun x h => by rw [hC] at h; exact h) hz1a (by rw [hz1b]; decide +kernel) ?_ ?_ ?_ hd (fun H2 locs2 hP2 hD2 hS2 => ?_)
  · rcases hb01 with rfl | rfl <;> rfl
  · rcases hb01 with rfl | rfl <;> rfl
  · show fk < (fs.mapIdx _).length
    rw [List.length_mapIdx]
    exact (List.getElem?_eq_some_iff.mp hk).1
  · have e1 : (pm_ws tc ad μ).set r (ad r, .inr (ci, (fs.mapIdx (fun k o => match o with | some r => Value.ref (ad r) | none => Value.int (μ.1 r k))).set fk (.int x))) = pm_ws tc ad (pm_set μ r fk x) := by
      rw [← pm_ws_set (tc := tc) (ad := ad) (μ := μ) (μ' := pm_set μ r fk x) hs0 rfl (fun i y hi _ => pm_ce_off (pm_set_off hi) rfl rfl)]
      congr 2
      show Sum.inr _ = Sum.inr _
      congr 2
      exact pm_fs_set hk
    exact k p l e s m args below meth c D tc ad A hO H2 locs2 cells slots ls hc hs (by rw [← e1]; exact hP2) (by rw [← e1]; exact hD2) hS2 hlv
theorem pm_s_iald {r n : Nat} {j : Int32} (hs0 : pm_sh[r]? = some (.inl (0, n))) (hin : vp_in j n) (hd : decode (pm_cc mi) pc = .ok (.iaload, 1)) (k : pm_V mi T kc ks (pc + 1) lo (.int (μ.1 r j.toNatClampNeg) :: st) μ) : pm_V mi T kc ks pc lo (.int j :: .ref r :: st) μ := by
  intro p l e s m args below meth c D tc ad A hO H locs cells slots ls hc hs hP hD hS hlv
  obtain ⟨hx, hb, hml, hown, hts, hr, hlk, htr, hst, hA, htab, hZ⟩ := id hO
  obtain ⟨hK, hNw, hStr, hCs, hDc, hNc, hU, hN⟩ := id hst
  have hw := pm_ws_get (tc := tc) (ad := ad) (μ := μ) hs0
  exact va_iald hx hb hK hP r 0 hw rfl hin hd (k p l e s m args below meth c D tc ad A hO H locs cells slots ls hc hs hP hD hS hlv)
theorem pm_s_cald {r n : Nat} {j : Int32} (hs0 : pm_sh[r]? = some (.inl (1, n))) (hin : vp_in j n) (hd : decode (pm_cc mi) pc = .ok (.caload, 1)) (k : pm_V mi T kc ks (pc + 1) lo (.int (μ.1 r j.toNatClampNeg) :: st) μ) : pm_V mi T kc ks pc lo (.int j :: .ref r :: st) μ := by
  intro p l e s m args below meth c D tc ad A hO H locs cells slots ls hc hs hP hD hS hlv
  obtain ⟨hx, hb, hml, hown, hts, hr, hlk, htr, hst, hA, htab, hZ⟩ := id hO
  obtain ⟨hK, hNw, hStr, hCs, hDc, hNc, hU, hN⟩ := id hst
  have hw := pm_ws_get (tc := tc) (ad := ad) (μ := μ) hs0
  exact va_cald hx hb hK hP r 1 hw rfl hin hd (k p l e s m args below meth c D tc ad A hO H locs cells slots ls hc hs hP hD hS hlv)
theorem pm_s_lald {r n : Nat} {j : Int32} (hs0 : pm_sh[r]? = some (.inl (2, n))) (hin : vp_in j n) (hd : decode (pm_cc mi) pc = .ok (.laload, 1)) (k : pm_V mi T kc ks (pc + 1) lo (.long (μ.2.1 j.toNatClampNeg) :: st) μ) : pm_V mi T kc ks pc lo (.int j :: .ref r :: st) μ := by
  intro p l e s m args below meth c D tc ad A hO H locs cells slots ls hc hs hP hD hS hlv
  obtain ⟨hx, hb, hml, hown, hts, hr, hlk, htr, hst, hA, htab, hZ⟩ := id hO
  obtain ⟨hK, hNw, hStr, hCs, hDc, hNc, hU, hN⟩ := id hst
  have hw := pm_ws_get (tc := tc) (ad := ad) (μ := μ) hs0
  exact va_lald hx hb hK hP r 2 hw rfl hin hd (k p l e s m args below meth c D tc ad A hO H locs cells slots ls hc hs hP hD hS hlv)
theorem pm_s_dald {r n : Nat} {j : Int32} (hs0 : pm_sh[r]? = some (.inl (3, n))) (hin : vp_in j n) (hd : decode (pm_cc mi) pc = .ok (.daload, 1)) (k : pm_V mi T kc ks (pc + 1) lo (.double (μ.2.2.1 j.toNatClampNeg) :: st) μ) : pm_V mi T kc ks pc lo (.int j :: .ref r :: st) μ := by
  intro p l e s m args below meth c D tc ad A hO H locs cells slots ls hc hs hP hD hS hlv
  obtain ⟨hx, hb, hml, hown, hts, hr, hlk, htr, hst, hA, htab, hZ⟩ := id hO
  obtain ⟨hK, hNw, hStr, hCs, hDc, hNc, hU, hN⟩ := id hst
  have hw := pm_ws_get (tc := tc) (ad := ad) (μ := μ) hs0
  exact va_dald hx hb hK hP r 3 hw rfl hin hd (k p l e s m args below meth c D tc ad A hO H locs cells slots ls hc hs hP hD hS hlv)
theorem pm_s_iast {r n : Nat} {j x : Int32} (hs0 : pm_sh[r]? = some (.inl (0, n))) (hin : vp_in j n) (hd : decode (pm_cc mi) pc = .ok (.iastore, 1)) (k : pm_V mi T kc ks (pc + 1) lo st (pm_set μ r j.toNatClampNeg x)) : pm_V mi T kc ks pc lo (.int x :: .int j :: .ref r :: st) μ := by
  intro p l e s m args below meth c D tc ad A hO H locs cells slots ls hc hs hP hD hS hlv
  obtain ⟨hx, hb, hml, hown, hts, hr, hlk, htr, hst, hA, htab, hZ⟩ := id hO
  obtain ⟨hK, hNw, hStr, hCs, hDc, hNc, hU, hN⟩ := id hst
  have hw := pm_ws_get (tc := tc) (ad := ad) (μ := μ) hs0
  refine va_iast hx hb hK hP hD hS r 0 hw rfl hin hd (fun H2 locs2 hP2 hD2 hS2 => ?_)
  have e1 : (pm_ws tc ad μ).set r (ad r, .inl (tc 0, n, .inl (upd (μ.1 r) j.toNatClampNeg x))) = pm_ws tc ad (pm_set μ r j.toNatClampNeg x) := by
    rw [← pm_ws_set (tc := tc) (ad := ad) (μ := μ) (μ' := pm_set μ r j.toNatClampNeg x) hs0 rfl (fun i y hi _ => pm_ce_off (pm_set_off hi) rfl rfl), ← pm_set_at]
    rfl
  exact k p l e s m args below meth c D tc ad A hO H2 locs2 cells slots ls hc hs (by rw [← e1]; exact hP2) (by rw [← e1]; exact hD2) hS2 hlv
theorem pm_s_last {r n : Nat} {j : Int32} {x : Int64} (hr0 : r = 55) (hs0 : pm_sh[r]? = some (.inl (2, n))) (hin : vp_in j n) (hd : decode (pm_cc mi) pc = .ok (.lastore, 1)) (k : pm_V mi T kc ks (pc + 1) lo st (pm_setL μ j.toNatClampNeg x)) : pm_V mi T kc ks pc lo (.long x :: .int j :: .ref r :: st) μ := by
  intro p l e s m args below meth c D tc ad A hO H locs cells slots ls hc hs hP hD hS hlv
  obtain ⟨hx, hb, hml, hown, hts, hr, hlk, htr, hst, hA, htab, hZ⟩ := id hO
  obtain ⟨hK, hNw, hStr, hCs, hDc, hNc, hU, hN⟩ := id hst
  have hw := pm_ws_get (tc := tc) (ad := ad) (μ := μ) hs0
  refine va_last hx hb hK hP hD hS r 2 hw rfl hin hd (fun H2 locs2 hP2 hD2 hS2 => ?_)
  have e1 : (pm_ws tc ad μ).set r (ad r, .inl (tc 2, n, .inr (.inl (vp_updL μ.2.1 j.toNatClampNeg x)))) = pm_ws tc ad (pm_setL μ j.toNatClampNeg x) := by
    subst hr0
    rw [← pm_ws_set (tc := tc) (ad := ad) (μ := μ) (μ' := pm_setL μ j.toNatClampNeg x) hs0 rfl (fun i y hi hy => pm_ce_noL hi hy)]
    rfl
  exact k p l e s m args below meth c D tc ad A hO H2 locs2 cells slots ls hc hs (by rw [← e1]; exact hP2) (by rw [← e1]; exact hD2) hS2 hlv
theorem pm_s_dast {r n : Nat} {j : Int32} {x : UInt64} (hr0 : r = 56) (hs0 : pm_sh[r]? = some (.inl (3, n))) (hin : vp_in j n) (hd : decode (pm_cc mi) pc = .ok (.dastore, 1)) (k : pm_V mi T kc ks (pc + 1) lo st (pm_setD μ j.toNatClampNeg x)) : pm_V mi T kc ks pc lo (.double x :: .int j :: .ref r :: st) μ := by
  intro p l e s m args below meth c D tc ad A hO H locs cells slots ls hc hs hP hD hS hlv
  obtain ⟨hx, hb, hml, hown, hts, hr, hlk, htr, hst, hA, htab, hZ⟩ := id hO
  obtain ⟨hK, hNw, hStr, hCs, hDc, hNc, hU, hN⟩ := id hst
  have hw := pm_ws_get (tc := tc) (ad := ad) (μ := μ) hs0
  refine va_dast hx hb hK hP hD hS r 3 hw rfl hin hd (fun H2 locs2 hP2 hD2 hS2 => ?_)
  have e1 : (pm_ws tc ad μ).set r (ad r, .inl (tc 3, n, .inr (.inr (.inr (.inl (fun q => if q = j.toNatClampNeg then x else μ.2.2.1 q)))))) = pm_ws tc ad (pm_setD μ j.toNatClampNeg x) := by
    subst hr0
    rw [← pm_ws_set (tc := tc) (ad := ad) (μ := μ) (μ' := pm_setD μ j.toNatClampNeg x) hs0 rfl (fun i y hi hy => pm_ce_noD hi hy)]
    rfl
  exact k p l e s m args below meth c D tc ad A hO H2 locs2 cells slots ls hc hs (by rw [← e1]; exact hP2) (by rw [← e1]; exact hD2) hS2 hlv
theorem pm_s_alen {r n : Nat} (hs0 : pm_sh[r]? = some (.inl (0, n))) (hd : decode (pm_cc mi) pc = .ok (.arraylength, 1)) (k : pm_V mi T kc ks (pc + 1) lo (.int (Int32.ofNat n) :: st) μ) : pm_V mi T kc ks pc lo (.ref r :: st) μ := by
  intro p l e s m args below meth c D tc ad A hO H locs cells slots ls hc hs hP hD hS hlv
  obtain ⟨hx, hb, hml, hown, hts, hr, hlk, htr, hst, hA, htab, hZ⟩ := id hO
  obtain ⟨hK, hNw, hStr, hCs, hDc, hNc, hU, hN⟩ := id hst
  have hw := pm_ws_get (tc := tc) (ad := ad) (μ := μ) hs0
  exact va_alen (ty := .int) hx hb hK hP r 0 hw rfl rfl hd (k p l e s m args below meth c D tc ad A hO H locs cells slots ls hc hs hP hD hS hlv)
end PMS
