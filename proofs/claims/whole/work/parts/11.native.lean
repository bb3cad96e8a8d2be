/-! System.arraycopy and Math.min; a branch on a truth value; an array of offices -/
section PMN
variable {mi : pm_Mi} {T : pm_Tg} {kc ks pc : Nat} {lo : List (Option Value)} {st : List Value} {μ : pm_Mm}
theorem pm_wA1 : Cond.native arraycopyName ∈ pm_good := pm_tab (i := 366) (by decide +kernel) rfl
theorem pm_wA2 : Cond.static arraycopyName ∈ pm_good := pm_tab (i := 365) (by decide +kernel) rfl
theorem pm_wA3 : Cond.initialized "java/lang/System" ∈ pm_good := pm_tab (i := 18) (by decide +kernel) rfl
theorem pm_wM1 : Cond.static Lib.Math.min.name ∈ pm_good := pm_tab (i := 362) (by decide +kernel) rfl
theorem pm_wM2 : Cond.initialized "java/lang/Math" ∈ pm_good := pm_tab (i := 17) (by decide +kernel) rfl
theorem pm_wM3 : Cond.code Lib.Math.min.name Lib.Math.min.code 2 (some .int) ∈ pm_good := pm_tab (i := 363) (by decide +kernel) rfl
theorem lkA9_385 : Cond.methodLink (pm_R 9) 385 arraycopyName ∈ pm_good := pm_tab (i := 364) (by decide +kernel) rfl
theorem lkM9_380 : Cond.methodLink (pm_R 9) 380 Lib.Math.min.name ∈ pm_good := pm_tab (i := 361) (by decide +kernel) rfl
theorem lkM2_29 : Cond.methodLink (pm_R 2) 29 Lib.Math.min.name ∈ pm_good := pm_tab (i := 511) (by decide +kernel) rfl
theorem pm_min {ix : Nat} {x y : Int32} (hl : Cond.methodLink (pm_R (pm_id mi)) ix Lib.Math.min.name ∈ pm_good) (hd : decode (pm_cc mi) pc = .ok (.invokestatic ix, 3)) (hR : 1 ≤ (pm_rm mi).frames ∧ 21 ≤ (pm_rm mi).locals ∧ kc ≤ (pm_rm mi).cells ∧ ks ≤ (pm_rm mi).slots) (hW : (st.map fun v => v.category).sum ≤ 8)
    (k : pm_V mi T kc ks (pc + 3) lo (.int (if y < x then y else x) :: st) μ) : pm_V mi T kc ks pc lo (.int y :: .int x :: st) μ := by
  intro p l e s m args below meth c D tc ad A hO H locs cells slots ls hc hs hP hD hS hlv
  obtain ⟨hx, hb, hml, hown, hts, hr, hlk, htr, hst, hA, htab, hZ⟩ := id hO
  obtain ⟨hK, hNw, hStr, hCs, hDc, hNc, hU, hN⟩ := id hst
  exact va_mmin hx hb (hml.trans hlv.1.symm) hown (hts _ hl) (hts _ pm_wM1) (hts _ pm_wM2) (hts _ pm_wM3) hR.1 (by rw [pm_cats]; omega) (Nat.le_trans hc hR.2.2.1) (Nat.le_trans hs hR.2.2.2) hd (k p l e s m args below meth c D tc ad A hO H locs cells slots ls hc hs hP hD hS hlv)
theorem pm_acopy {ix a0 a n0 n1 : Nat} {n sp dp : Int32} (hl : Cond.methodLink (pm_R (pm_id mi)) ix arraycopyName ∈ pm_good) (hd : decode (pm_cc mi) pc = .ok (.invokestatic ix, 3)) (h0 : pm_sh[a0]? = some (.inl (0, n0))) (h1 : pm_sh[a]? = some (.inl (0, n1))) (g1 : ¬ sp < 0) (g2 : ¬ dp < 0) (g3 : ¬ n < 0) (g4 : sp.toNatClampNeg + n.toNatClampNeg ≤ n0) (g5 : dp.toNatClampNeg + n.toNatClampNeg ≤ n1)
    (hR : 1 ≤ (pm_rm mi).frames ∧ 80 ≤ (pm_rm mi).locals) (hW : (st.map fun v => v.category).sum ≤ 8)
    (k : pm_V mi T kc ks (pc + 3) lo st (pm_row μ a (va_cpy (μ.1 a0) (μ.1 a) sp.toNatClampNeg dp.toNatClampNeg n.toNatClampNeg))) : pm_V mi T kc ks pc lo (.int n :: .int dp :: .ref a :: .int sp :: .ref a0 :: st) μ := by
  intro p l e s m args below meth c D tc ad A hO H locs cells slots ls hc hs hP hD hS hlv
  obtain ⟨hx, hb, hml, hown, hts, hr, hlk, htr, hst, hA, htab, hZ⟩ := id hO
  obtain ⟨hK, hNw, hStr, hCs, hDc, hNc, hU, hN⟩ := id hst
  have w0 := pm_ws_get (tc := tc) (ad := ad) (μ := μ) h0
  have w1 := pm_ws_get (tc := tc) (ad := ad) (μ := μ) h1
  refine va_copyi (ty := .int) hx hb (hml.trans hlv.1.symm) hown (hts _ hl) (hts _ pm_wA1) (hts _ pm_wA2) (hts _ pm_wA3) hK hP hD hS a0 a 0 0 w0 w1 rfl rfl rfl g1 g2 g3 g4 g5 (fun i _ => rfl) hR.1 ?_ hd (fun H2 locs2 hP2 hD2 hS2 => ?_)
  · rw [pm_cats]
    have : nativeFrameWords "java/lang/System" "arraycopy" 5 + 11 ≤ 72 := by decide +kernel
    omega
  · have e1 : (pm_ws tc ad μ).set a (ad a, .inl (tc 0, n1, .inl (va_cpy (μ.1 a0) (μ.1 a) sp.toNatClampNeg dp.toNatClampNeg n.toNatClampNeg))) = pm_ws tc ad (pm_row μ a (va_cpy (μ.1 a0) (μ.1 a) sp.toNatClampNeg dp.toNatClampNeg n.toNatClampNeg)) := by
      rw [← pm_ws_set (tc := tc) (ad := ad) (μ := μ) (μ' := pm_row μ a (va_cpy (μ.1 a0) (μ.1 a) sp.toNatClampNeg dp.toNatClampNeg n.toNatClampNeg)) h1 rfl (fun i y hi _ => pm_ce_off (pm_row_off hi) rfl rfl)]
      have e2 : ∀ F : Nat → Int32, pm_ce tc ad (pm_row μ a F) a (.inl (0, n1)) = .inl (tc 0, n1, .inl F) := fun F => by
        show (Sum.inl (tc 0, n1, Sum.inl ((pm_row μ a F).1 a)) : va_E) = _
        rw [pm_row_at]
      rw [e2]
    exact k p l e s m args below meth c D tc ad A hO H2 locs2 cells slots ls hc hs (by rw [← e1]; exact hP2) (by rw [← e1]; exact hD2) hS2 hlv
theorem pm_aald {r n : Nat} {j : Int32} (hs0 : pm_sh[r]? = some (.inl (4, n))) (hin : vp_in j n) (hd : decode (pm_cc mi) pc = .ok (.aaload, 1)) (k : pm_V mi T kc ks (pc + 1) lo (.ref (96 + 39 * j.toNatClampNeg) :: st) μ) : pm_V mi T kc ks pc lo (.int j :: .ref r :: st) μ := by
  intro p l e s m args below meth c D tc ad A hO H locs cells slots ls hc hs hP hD hS hlv
  obtain ⟨hx, hb, hml, hown, hts, hr, hlk, htr, hst, hA, htab, hZ⟩ := id hO
  obtain ⟨hK, hNw, hStr, hCs, hDc, hNc, hU, hN⟩ := id hst
  have hw := pm_ws_get (tc := tc) (ad := ad) (μ := μ) hs0
  exact va_aldq hx hb hK hP r 4 hw rfl hin hd (k p l e s m args below meth c D tc ad A hO H locs cells slots ls hc hs hP hD hS hlv)
/-- a truth value as a number -/
def lr_b (b : Bool) : Int32 := if b then 1 else 0
theorem lr_b0 {b : Bool} : lr_b b = 0 ↔ b = false := by cases b <;> decide
theorem lr_bn0 {b : Bool} : ¬ lr_b b = 0 ↔ b = true := by cases b <;> decide
theorem lr_b1 (b : Bool) : lr_b b = 0 ∨ lr_b b = 1 := by cases b <;> decide
theorem lr_bt : lr_b true = 1 := rfl
theorem lr_bf : lr_b false = 0 := rfl
theorem lr_bnar (b : Bool) : narrow .boolean (.int (lr_b b)) = .int (lr_b b) := by cases b <;> rfl
theorem pm_ifb_eq {b : Bool} {off : Int} (tgt : Nat) (hd : decode (pm_cc mi) pc = .ok (.ifCond .eq off, 3)) (ht : (pc : Int) + off = (tgt : Int)) (k1 : b = false → pm_V mi T kc ks tgt lo st μ) (k2 : b = true → pm_V mi T kc ks (pc + 3) lo st μ) : pm_V mi T kc ks pc lo (.int (lr_b b) :: st) μ :=
  pm_if_eq tgt hd ht (fun h => k1 (lr_b0.mp h)) (fun h => k2 (lr_bn0.mp h))
theorem pm_ifb_ne {b : Bool} {off : Int} (tgt : Nat) (hd : decode (pm_cc mi) pc = .ok (.ifCond .ne off, 3)) (ht : (pc : Int) + off = (tgt : Int)) (k1 : b = true → pm_V mi T kc ks tgt lo st μ) (k2 : b = false → pm_V mi T kc ks (pc + 3) lo st μ) : pm_V mi T kc ks pc lo (.int (lr_b b) :: st) μ :=
  pm_if_ne tgt hd ht (fun h => k1 (lr_bn0.mp h)) (fun h => k2 (lr_b0.mp h))
/-- tableswitch -/
theorem pm_tswO {dflt a b : Int} {offs : Array Int} {len : Nat} {x : Int32} (tgt : Nat) (hd : decode (pm_cc mi) pc = .ok (.tableswitch dflt a b offs, len)) (h : x.toInt < a ∨ b < x.toInt) (ht : (pc : Int) + dflt = (tgt : Int)) (k : pm_V mi T kc ks tgt lo st μ) : pm_V mi T kc ks pc lo (.int x :: st) μ := by
  intro p l e s m args below meth c D tc ad A hO H locs cells slots ls hc hs hP hD hS hlv
  obtain ⟨hx, hb, hml, hown, hts, hr, hlk, htr, hst, hA, htab, hZ⟩ := id hO
  obtain ⟨hK, hNw, hStr, hCs, hDc, hNc, hU, hN⟩ := id hst
  exact lv_tableOut hx hb hd h ht (k p l e s m args below meth c D tc ad A hO H locs cells slots ls hc hs hP hD hS hlv)
theorem pm_tswI {dflt a b : Int} {offs : Array Int} {len : Nat} {x : Int32} {off : Int} (tgt : Nat) (hd : decode (pm_cc mi) pc = .ok (.tableswitch dflt a b offs, len)) (h1 : ¬ x.toInt < a) (h2 : ¬ b < x.toInt) (ho : offs[(x.toInt - a).toNat]? = some off) (ht : (pc : Int) + off = (tgt : Int)) (k : pm_V mi T kc ks tgt lo st μ) : pm_V mi T kc ks pc lo (.int x :: st) μ := by
  intro p l e s m args below meth c D tc ad A hO H locs cells slots ls hc hs hP hD hS hlv
  obtain ⟨hx, hb, hml, hown, hts, hr, hlk, htr, hst, hA, htab, hZ⟩ := id hO
  obtain ⟨hK, hNw, hStr, hCs, hDc, hNc, hU, hN⟩ := id hst
  exact lv_tableIn hx hb hd h1 h2 ho ht (k p l e s m args below meth c D tc ad A hO H locs cells slots ls hc hs hP hD hS hlv)
end PMN
