/-! the script, read at its place -/
/-- the script of L ints xs lies at place 1000 and is not written -/
def lr_Z (L : Nat) (xs : Nat → Int32) : State → (Nat → Prop) → (Nat → Nat) → Prop := fun s A ad => va_X (ad 1000) L xs s s.heap ∧ ad 1000 < s.heap.size ∧ ¬ A (ad 1000)
section PMSC
variable {mi : pm_Mi} {P : Option Value → pm_Mm → Prop} {X : String → pm_Mm → Prop} {L : Nat} {xs : Nat → Int32} {kc ks pc : Nat} {lo : List (Option Value)} {st : List Value} {μ : pm_Mm}
theorem pm_s_sld {j : Int32} (hin : vp_in j L) (hd : decode (pm_cc mi) pc = .ok (.iaload, 1)) (k : pm_V mi (P, X, lr_Z L xs) kc ks (pc + 1) lo (.int (xs j.toNatClampNeg) :: st) μ) : pm_V mi (P, X, lr_Z L xs) kc ks pc lo (.int j :: .ref 1000 :: st) μ := by
  intro p l e s m args below meth c D tc ad A hO H locs cells slots ls hc hs hP hD hS hlv
  obtain ⟨hx, hb, hml, hown, hts, hr, hlk, htr, hst, hA, htab, hZ⟩ := id hO
  exact va_sld hx hb hZ.1 hZ.2.1 hZ.2.2 hS hin hd (k p l e s m args below meth c D tc ad A hO H locs cells slots ls hc hs hP hD hS hlv)
theorem pm_s_slen (hd : decode (pm_cc mi) pc = .ok (.arraylength, 1)) (k : pm_V mi (P, X, lr_Z L xs) kc ks (pc + 1) lo (.int (Int32.ofNat L) :: st) μ) : pm_V mi (P, X, lr_Z L xs) kc ks pc lo (.ref 1000 :: st) μ := by
  intro p l e s m args below meth c D tc ad A hO H locs cells slots ls hc hs hP hD hS hlv
  obtain ⟨hx, hb, hml, hown, hts, hr, hlk, htr, hst, hA, htab, hZ⟩ := id hO
  exact va_slen hx hb hZ.1 hZ.2.1 hZ.2.2 hS hd (k p l e s m args below meth c D tc ad A hO H locs cells slots ls hc hs hP hD hS hlv)
end PMSC
