section PMC2
variable {mi : pm_Mi} {T : pm_Tg} {kc ks kc2 ks2 pc : Nat} {lo : List (Option Value)} {st : List Value} {μ : pm_Mm}
theorem pm_callV2 (mi2 : pm_Mi) {ix b ci n : Nat} {As rest : List Value} {fs : List (Option Nat)} {P2 : Option Value → pm_Mm → Prop} {X2 : String → pm_Mm → Prop} (hM : pm_CT mi2 (.ref b :: As) μ P2 X2) (hcal : pm_CalV mi2 n) (hl : Cond.methodLink (pm_R (pm_id mi)) ix (pm_y mi2) ∈ pm_good) (hf : pm_fit mi mi2 kc ks = true) (hh : pm_hh mi = [])
    (hd : decode (pm_cc mi) pc = .ok (.invokevirtual ix, 3)) (hn : As.length = n) (hsh : pm_sh[b]? = some (.inr (ci, fs))) (hci : (pm_cl[ci]?).map (fun q => q.1) = some (pm_y mi2).cls) (hst0 : st = As.reverse ++ .ref b :: rest) (hW : (rest.map fun v => v.category).sum ≤ 8) (g1 : kc + (pm_rm mi2).cells ≤ kc2) (g2 : ks + (pm_rm mi2).slots ≤ ks2)
    (kx : ∀ E μ', X2 E μ' → T.2.1 E μ') (k : ∀ v μ', P2 v μ' → pm_V mi T kc2 ks2 (pc + 3) lo (v.toList ++ rest) μ') : pm_V mi T kc ks pc lo st μ :=
  pm_callV mi2 hM hcal hl hf hh hd hn hsh hci hst0 hW kx (fun v μ' h => pm_V.grow g1 g2 (k v μ' h))
theorem pm_callS2 (mi2 : pm_Mi) {ix n : Nat} {As rest : List Value} {P2 : Option Value → pm_Mm → Prop} {X2 : String → pm_Mm → Prop} (hM : pm_CT mi2 As μ P2 X2) (hcal : pm_CalS mi2 n) (hl : Cond.methodLink (pm_R (pm_id mi)) ix (pm_y mi2) ∈ pm_good) (hf : pm_fit mi mi2 kc ks = true) (hh : pm_hh mi = [])
    (hd : decode (pm_cc mi) pc = .ok (.invokestatic ix, 3)) (hn : As.length = n) (hst0 : st = As.reverse ++ rest) (hW : (rest.map fun v => v.category).sum ≤ 8) (g1 : kc + (pm_rm mi2).cells ≤ kc2) (g2 : ks + (pm_rm mi2).slots ≤ ks2)
    (kx : ∀ E μ', X2 E μ' → T.2.1 E μ') (k : ∀ v μ', P2 v μ' → pm_V mi T kc2 ks2 (pc + 3) lo (v.toList ++ rest) μ') : pm_V mi T kc ks pc lo st μ :=
  pm_callS mi2 hM hcal hl hf hh hd hn hst0 hW kx (fun v μ' h => pm_V.grow g1 g2 (k v μ' h))
theorem pm_callSN2 (mi2 : pm_Mi) {ix n : Nat} {host : String} {As rest : List Value} {P2 : Option Value → pm_Mm → Prop} (hM : pm_CT mi2 As μ P2 pm_NX) (hcal : pm_CalS mi2 n) (hl : (pm_R (pm_id mi), ix, pm_y mi2, host) ∈ pm_nwl) (hf : pm_fit mi mi2 kc ks = true)
    (hd : decode (pm_cc mi) pc = .ok (.invokestatic ix, 3)) (hn : As.length = n) (hst0 : st = As.reverse ++ rest) (hW : (rest.map fun v => v.category).sum ≤ 8) (g1 : kc + (pm_rm mi2).cells ≤ kc2) (g2 : ks + (pm_rm mi2).slots ≤ ks2)
    (k : ∀ v μ', P2 v μ' → pm_V mi T kc2 ks2 (pc + 3) lo (v.toList ++ rest) μ') : pm_V mi T kc ks pc lo st μ :=
  pm_callSN mi2 hM hcal hl hf hd hn hst0 hW (fun v μ' h => pm_V.grow g1 g2 (k v μ' h))
end PMC2
/-! words for numbers -/
/-- the first place from k on, of n places, where p holds; -1 if there is none -/
def lr_fst (p : Nat → Bool) : Nat → Nat → Int32
  | 0, _ => -1
  | n + 1, k => if p k then nI k else lr_fst p n (k + 1)
/-- a sum over the first places -/
def lr_sum (f : Nat → Int32) : Nat → Int32
  | 0 => 0
  | k + 1 => lr_sum f k + f k
def lr_in (v a b : Int32) : Bool := !(decide (v < a)) && !(decide (b < v))
def lr_be (v n : Int32) : Bool := !(decide (v < 0)) && !(decide (n ≤ v))
theorem lr_be_nI {a b : Nat} (ha : a < 2 ^ 31) (hb : b < 2 ^ 31) : lr_be (nI a) (nI b) = decide (a < b) := by
  have h1 := nI_pos ha
  have h2 := nI_leI hb ha
  by_cases h : a < b
  · simp [lr_be, h1, h2, h]
  · simp [lr_be, h1, h2, h]; omega
theorem lr_be_t {x : Int32} {n : Nat} (hn : n < 2 ^ 31) (h : lr_be x (nI n) = true) : ∃ k, k < n ∧ x = nI k := by
  simp only [lr_be, Bool.and_eq_true, Bool.not_eq_true', decide_eq_false_iff_not] at h
  obtain ⟨k, hk, rfl⟩ := nI_of h.1
  refine ⟨k, ?_, rfl⟩
  rcases Nat.lt_or_ge k n with q | q
  · exact q
  · exact absurd (nI_le q hk) h.2
theorem lr_loop {n k N : Nat} (h : k + n = N) (hN : N < 2 ^ 31) {x : Int32} (hx : x = nI k) (hlt : ¬ nI N ≤ x) : ∃ n', n = n' + 1 := by
  cases n with
  | zero => exact absurd (by rw [hx, ← h]; exact nI_le (Nat.le_refl _) (by omega)) hlt
  | succ n' => exact ⟨n', rfl⟩
