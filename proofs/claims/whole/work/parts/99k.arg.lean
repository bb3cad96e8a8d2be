/-! an argument of the script -/
section PMAR
variable {mi : pm_Mi} {P : Option Value → pm_Mm → Prop} {X : String → pm_Mm → Prop} {L : Nat} {xs : Nat → Int32} {kc ks pc : Nat} {lo : List (Option Value)} {st : List Value} {μ : pm_Mm}
theorem pm_s_arg {i j : Nat} {kk : Int} (hl0 : lo[0]? = some (some (.ref 1000))) (hl5 : lo[5]? = some (some (.int (nI i)))) (hkk : Int32.ofInt kk = nI j) (h : i + j < L) (hL : L ≤ 3072) (d0 : decode (pm_cc mi) pc = .ok (.aload_n 0, 1)) (d1 : decode (pm_cc mi) (pc + 1) = .ok (.iload 5, 2)) (d2 : decode (pm_cc mi) (pc + 3) = .ok (.iconst kk, 1)) (d3 : decode (pm_cc mi) (pc + 4) = .ok (.iadd, 1)) (d4 : decode (pm_cc mi) (pc + 5) = .ok (.iaload, 1)) (k : pm_V mi (P, X, lr_Z L xs) kc ks (pc + 6) lo (.int (xs (i + j)) :: st) μ) : pm_V mi (P, X, lr_Z L xs) kc ks pc lo st μ := by
  refine pm_s_aload_n d0 rfl hl0 (pm_s_iload d1 hl5 (pm_s_iconst hkk d2 (pm_s_iadd d3 ?_)))
  rw [show nI i + nI j = nI (i + j) from (Int32.ofNat_add i j).symm]
  refine pm_s_sld (vp_in_nI h (by omega)) d4 ?_
  rw [nI_clamp (by omega)]
  exact k
end PMAR
