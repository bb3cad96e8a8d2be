/-! longs and doubles compared -/
section PMLC
variable {p : Program} {l : Launch} {e : Env} {R : Room} {s : State} {m : MethodId} {args : Array Value} {below : List Frame} {meth : Method} {c : Code} {H : Heap} {locs : List Loc} {cells slots : Nat} {cc : ByteArray} {pc : Nat} {ls : Array Slot} {rest : List Value} {Q : State → Prop}
theorem pm_w_lcmp (hexec : p.tables.exec = Jvm.exec) (hb : c.code = cc) {x y : Int64} (hdg : decode cc pc = .ok (.lcmp, 1))
    (k : W p l e R s m args below meth c H locs cells slots Q (F0 m (pc + 1) ls (.int (if x > y then 1 else if x == y then 0 else -1) :: rest))) : W p l e R s m args below meth c H locs cells slots Q (F0 m pc ls (.long y :: .long x :: rest)) := by
  intro T hT X
  obtain ⟨t, a, b⟩ := k T hT X
  refine ⟨t, ?_, b⟩
  jvm_step X.here [X.here.top, hexec, hb, hdg]
  by_cases h1 : y < x
  · rw [if_pos h1]; rw [if_pos (show x > y from h1)] at a; exact a
  · rw [if_neg h1]; rw [if_neg (show ¬ x > y from h1)] at a
    by_cases h2 : x = y
    · rw [if_pos h2]; rw [if_pos (show (x == y) = true by simpa using h2)] at a; exact a
    · rw [if_neg h2]; rw [if_neg (show ¬ (x == y) = true by simpa using h2)] at a; exact a
end PMLC
section PMLC2
variable {mi : pm_Mi} {T : pm_Tg} {kc ks pc : Nat} {lo : List (Option Value)} {st : List Value} {μ : pm_Mm}
theorem pm_s_lcmp {x y : Int64} (hd : decode (pm_cc mi) pc = .ok (.lcmp, 1)) (k : pm_V mi T kc ks (pc + 1) lo (.int (if x > y then 1 else if x == y then 0 else -1) :: st) μ) : pm_V mi T kc ks pc lo (.long y :: .long x :: st) μ := by
  intro p l e s m args below meth c D tc ad A hO H locs cells slots ls hc hs hP hD hS hlv
  obtain ⟨hx, hb, hml, hown, hts, hr, hlk, htr, hst, hA, htab, hZ⟩ := id hO
  exact pm_w_lcmp hx hb hd (k p l e s m args below meth c D tc ad A hO H locs cells slots ls hc hs hP hD hS hlv)
theorem pm_s_lcmp0 {x : Int64} (hd : decode (pm_cc mi) pc = .ok (.lcmp, 1)) (k : pm_V mi T kc ks (pc + 1) lo (.int 0 :: st) μ) : pm_V mi T kc ks pc lo (.long x :: .long x :: st) μ := by
  refine pm_s_lcmp hd ?_
  have h1 : ¬ x > x := fun h => absurd (Int64.lt_iff_toInt_lt.mp h) (Int.lt_irrefl _)
  rw [if_neg h1, if_pos (by simp)]
  exact k
theorem pm_s_dcmp {op : CmpOp} {x y : UInt64} (hd : decode (pm_cc mi) pc = .ok (.dcmp op, 1)) (k : pm_V mi T kc ks (pc + 1) lo (.int (Op.cmpValue (FP.dcmp x y) op) :: st) μ) : pm_V mi T kc ks pc lo (.double y :: .double x :: st) μ := by
  intro p l e s m args below meth c D tc ad A hO H locs cells slots ls hc hs hP hD hS hlv
  obtain ⟨hx, hb, hml, hown, hts, hr, hlk, htr, hst, hA, htab, hZ⟩ := id hO
  exact lv_dcmp hx hb hd (k p l e s m args below meth c D tc ad A hO H locs cells slots ls hc hs hP hD hS hlv)
theorem pm_s_dload {a : Nat} {x : UInt64} (hd : decode (pm_cc mi) pc = .ok (.dload a, 2)) (hl : lo[a]? = some (some (.double x))) (k : pm_V mi T kc ks (pc + 2) lo (.double x :: st) μ) : pm_V mi T kc ks pc lo st μ := by
  intro p l e s m args below meth c D tc ad A hO H locs cells slots ls hc hs hP hD hS hlv
  obtain ⟨hx, hb, hml, hown, hts, hr, hlk, htr, hst, hA, htab, hZ⟩ := id hO
  exact lv_dload hx hb hd (hlv.2.2 _ _ hl) (k p l e s m args below meth c D tc ad A hO H locs cells slots ls hc hs hP hD hS hlv)
end PMLC2
