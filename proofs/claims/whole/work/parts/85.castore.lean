/-! the class: a letter of a text, a whole text, signs appended -/
section PMK
variable {mi : pm_Mi} {T : pm_Tg} {kc ks pc : Nat} {lo : List (Option Value)} {st : List Value} {μ : pm_Mm}
theorem pm_s_cast {r n : Nat} {j x y : Int32} (hs0 : pm_sh[r]? = some (.inl (1, n))) (hin : vp_in j n) (hd : decode (pm_cc mi) pc = .ok (.castore, 1)) (hy : narrow .char (.int x) = .int y) (k : pm_V mi T kc ks (pc + 1) lo st (pm_set μ r j.toNatClampNeg y)) : pm_V mi T kc ks pc lo (.int x :: .int j :: .ref r :: st) μ := by
  intro p l e s m args below meth c D tc ad A hO H locs cells slots ls hc hs hP hD hS hlv
  obtain ⟨hx, hb, hml, hown, hts, hr, hlk, htr, hst, hA, htab, hZ⟩ := id hO
  obtain ⟨hK, hNw, hStr, hCs, hDc, hNc, hU, hN⟩ := id hst
  have hw := pm_ws_get (tc := tc) (ad := ad) (μ := μ) hs0
  refine va_cast hx hb hK hP hD hS r 1 hw rfl hin hd (fun H2 locs2 hP2 hD2 hS2 => ?_)
  have ey : vp_nar .char x = y := by
    have q : narrow .char (.int x) = .int (vp_nar .char x) := rfl
    exact Value.int.inj (q.symm.trans hy)
  rw [ey] at hP2 hD2
  have e1 : (pm_ws tc ad μ).set r (ad r, .inl (tc 1, n, .inl (upd (μ.1 r) j.toNatClampNeg y))) = pm_ws tc ad (pm_set μ r j.toNatClampNeg y) := by
    rw [← pm_ws_set (tc := tc) (ad := ad) (μ := μ) (μ' := pm_set μ r j.toNatClampNeg y) hs0 rfl (fun i y hi _ => pm_ce_off (pm_set_off hi) rfl rfl), ← pm_set_at]
    rfl
  exact k p l e s m args below meth c D tc ad A hO H2 locs2 cells slots ls hc hs (by rw [← e1]; exact hP2) (by rw [← e1]; exact hD2) hS2 hlv
end PMK
