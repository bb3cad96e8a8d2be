/-! a double over two locals -/
theorem pm_LV.sto2 {ad : Nat → Nat} {ls : Array Slot} {nL i : Nat} {lo : List (Option Value)} {x : UInt64} (hc : pm_c1 lo i = true) (hi : i + 1 < lo.length) (h : lv_has ls nL ((i, Value.double x) :: (pm_as ad lo).filter (fun q => !(q.1 == i) && (!(q.1 == i + 1) && !(q.1 + 1 == i && q.2.category == 2))))) : pm_LV ad ls nL ((lo.set i (some (.double x))).set (i + 1) none) := by
  refine ⟨h.1, h.2.1, fun j v hj => ?_⟩
  by_cases e : j = i + 1
  · subst e
    rw [List.getElem?_set_self (by rw [List.length_set]; exact hi)] at hj
    exact absurd hj (by simp)
  · rw [List.getElem?_set_ne (fun q => e q.symm)] at hj
    by_cases e0 : j = i
    · subst e0
      rw [List.getElem?_set_self (by omega)] at hj
      have h5 : v = .double x := (Option.some.inj (Option.some.inj hj)).symm
      subst h5
      exact h.2.2 (j, .double x) List.mem_cons_self
    · rw [List.getElem?_set_ne (fun q => e0 q.symm)] at hj
      refine h.2.2 (j, pm_rv ad v) (List.mem_cons_of_mem _ (List.mem_filter.mpr ⟨pm_as_mem.mpr ⟨v, hj, rfl⟩, ?_⟩))
      have e1 : (j == i) = false := by simpa using e0
      have e3 : (j == i + 1) = false := by simpa using e
      by_cases e2 : j + 1 = i
      · subst e2
        have := pm_c1_spec hc hj
        simp [e1, e3, pm_rv_cat, this]
      · simp [e1, e3, e2]
section PMDS2
variable {mi : pm_Mi} {T : pm_Tg} {kc ks pc : Nat} {lo : List (Option Value)} {st : List Value} {μ : pm_Mm}
theorem pm_s_dstore {a : Nat} {x : UInt64} (hd : decode (pm_cc mi) pc = .ok (.dstore a, 2)) (hn : a + 1 < pm_nL mi) (h1 : pm_c1 lo a = true) (h2 : a + 1 < lo.length) (k : pm_V mi T kc ks (pc + 2) ((lo.set a (some (.double x))).set (a + 1) none) st μ) : pm_V mi T kc ks pc lo (.double x :: st) μ := by
  intro p l e s m args below meth c D tc ad A hO H locs cells slots ls hc hs hP hD hS hlv
  obtain ⟨hx, hb, hml, hown, hts, hr, hlk, htr, hst, hA, htab, hZ⟩ := id hO
  exact lv_dstore hx hb hd hlv.has hn rfl (fun ls2 hl2 => k p l e s m args below meth c D tc ad A hO H locs cells slots ls2 hc hs hP hD hS (pm_LV.sto2 h1 h2 hl2))
end PMDS2
