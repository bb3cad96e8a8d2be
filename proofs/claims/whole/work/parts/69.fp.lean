/-! the class: letters read, days, accounts, undo, save, restore -/
theorem lr_nozero {v : Int32} (h : v ≠ 0) : ¬ FP.Core.DZero (FP.Core.i2d v) := by
  intro q; exact FP.Core.i2d_ne_zero h ((FP.Core.zero_bits2 _).mp q)
theorem lr_dnan {a b : Int32} (h : b ≠ 0) : vf_n64 (FP.ddiv (FP.i2d a) (FP.i2d b)) := by
  have q : FP.Core.dIsNaN (FP.Core.ddiv (FP.Core.i2d a) (FP.Core.i2d b)) = false := FP.Core.ddiv_out ((FP.Core.notNaN_iff _).mpr (FP.Core.i2d_fin a).ne_nan) (FP.Core.i2d_fin b) (lr_nozero h)
  show (FP.Core.ddiv (FP.Core.i2d a) (FP.Core.i2d b)) &&& 0x7fffffffffffffff ≤ 0x7ff0000000000000
  have q2 : ¬ 9218868437227405312 < (FP.Core.ddiv (FP.Core.i2d a) (FP.Core.i2d b)).toNat % 2 ^ 63 := fun c => by rw [(FP.Core.isNaN_bits _).mpr c] at q; exact absurd q (by decide)
  rw [UInt64.le_iff_toNat_le, UInt64.toNat_and]
  rw [show (0x7fffffffffffffff : UInt64).toNat = 2 ^ 63 - 1 from by decide, Nat.and_two_pow_sub_one_eq_mod, show (0x7ff0000000000000 : UInt64).toNat = 9218868437227405312 from by decide]
  exact Nat.not_lt.mp q2
section PMD
variable {mi : pm_Mi} {T : pm_Tg} {kc ks pc : Nat} {lo : List (Option Value)} {st : List Value} {μ : pm_Mm}
theorem pm_s_ddiv {x y : UInt64} (hd : decode (pm_cc mi) pc = .ok (.ddiv, 1)) (hne : vf_n64 (FP.ddiv x y)) (k : pm_V mi T kc ks (pc + 1) lo (.double (FP.ddiv x y) :: st) μ) : pm_V mi T kc ks pc lo (.double y :: .double x :: st) μ := by
  intro p l e s m args below meth c D tc ad A hO H locs cells slots ls hc hs hP hD hS hlv
  obtain ⟨hx, hb, hml, hown, hts, hr, hlk, htr, hst, hA, htab, hZ⟩ := id hO
  exact lv_ddiv hx hb hd hne (k p l e s m args below meth c D tc ad A hO H locs cells slots ls hc hs hP hD hS hlv)
theorem pm_s_dconst0 (hd : decode (pm_cc mi) pc = .ok (.dconst 0, 1)) (k : pm_V mi T kc ks (pc + 1) lo (.double FP.dconst0 :: st) μ) : pm_V mi T kc ks pc lo st μ := by
  intro p l e s m args below meth c D tc ad A hO H locs cells slots ls hc hs hP hD hS hlv
  obtain ⟨hx, hb, hml, hown, hts, hr, hlk, htr, hst, hA, htab, hZ⟩ := id hO
  exact lv_dconst0 hx hb hd (k p l e s m args below meth c D tc ad A hO H locs cells slots ls hc hs hP hD hS hlv)
end PMD
