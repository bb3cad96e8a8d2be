/-! a run of steps at once; branches; calls; ends -/
def pm_vcp : Option Prop → Prop
  | none => True
  | some d => d
theorem pm_sto_spec {q q1 : pm_St} {n a : Nat} {v : Value} {st : List Value} {c : Option Prop} (h : pm_sto q n a v st = some (q1, c)) : pm_c1 q.2.1 a = true ∧ a < q.2.1.length ∧ q1 = (q.1 + n, q.2.1.set a (some v), st, q.2.2.2) ∧ c = none := by
  unfold pm_sto at h
  cases h1 : pm_c1 q.2.1 a <;> cases h2 : Nat.blt a q.2.1.length <;> rw [h1, h2] at h <;> cases h
  exact ⟨rfl, Nat.blt_eq.mp h2, rfl, rfl⟩
theorem pm_obf_spec {r ci k : Nat} {o : Option Nat} (h : pm_obf r ci k = some o) : ∃ fs, pm_sh[r]? = some (.inr (ci, fs)) ∧ fs[k]? = some o := by
  unfold pm_obf at h
  split at h
  · rename_i c fs hs
    split at h
    · rename_i hb
      have hb := Nat.eq_of_beq_eq_true hb
      subst hb
      exact ⟨fs, hs, h⟩
    · cases h
  · cases h
theorem pm_arl_spec {t r n : Nat} (h : pm_arl t r = some n) : pm_sh[r]? = some (.inl (t, n)) := by
  unfold pm_arl at h
  split at h
  · rename_i t' n' hs
    split at h
    · rename_i hb
      have hb := Nat.eq_of_beq_eq_true hb
      subst hb
      cases h
      exact hs
    · cases h
  · cases h
section PMB
variable {mi : pm_Mi} {T : pm_Tg} {kc ks : Nat}
set_option maxHeartbeats 4000000 in
theorem pm_step_ok (i : pm_PI) (q q1 : pm_St) (c : Option Prop) (hn : q.2.1.length = pm_nL mi) (hd : decode (pm_cc mi) q.1 = .ok (i.1, i.2.1)) (hok : pm_ok (pm_id mi) q.1 i = true) (hs : pm_step i q = some (q1, c)) (hc : pm_vcp c)
    (k : pm_V mi T kc ks q1.1 q1.2.1 q1.2.2.1 q1.2.2.2) : pm_V mi T kc ks q.1 q.2.1 q.2.2.1 q.2.2.2 := by
  obtain ⟨pc, lo, st, μ⟩ := q
  obtain ⟨ins, n, a, b, v⟩ := i
  dsimp only at hd hok hn ⊢
  cases ins
  case aload_n j =>
    simp only [pm_ok, Bool.and_eq_true, Bool.or_eq_true, beq_iff_eq] at hok
    dsimp only [pm_step, pm_push] at hs
    obtain ⟨rfl, rfl⟩ := hok
    split at hs
    · rename_i r hr; cases hs; exact pm_s_aload_n hd rfl hr k
    · cases hs
  case iload_n j =>
    simp only [pm_ok, Bool.and_eq_true, Bool.or_eq_true, beq_iff_eq] at hok
    dsimp only [pm_step, pm_push] at hs
    obtain ⟨rfl, rfl⟩ := hok
    split at hs
    · rename_i r hr; cases hs; exact pm_s_iload_n hd rfl hr k
    · cases hs
  case aload j =>
    simp only [pm_ok, Bool.and_eq_true, Bool.or_eq_true, beq_iff_eq] at hok
    dsimp only [pm_step, pm_push] at hs
    obtain ⟨rfl, rfl⟩ := hok
    split at hs
    · rename_i r hr; cases hs; exact pm_s_aload hd hr k
    · cases hs
  case iload j =>
    simp only [pm_ok, Bool.and_eq_true, Bool.or_eq_true, beq_iff_eq] at hok
    dsimp only [pm_step, pm_push] at hs
    obtain ⟨rfl, rfl⟩ := hok
    split at hs
    · rename_i r hr; cases hs; exact pm_s_iload hd hr k
    · cases hs
  case istore_n j =>
    simp only [pm_ok, Bool.and_eq_true, Bool.or_eq_true, beq_iff_eq] at hok
    dsimp only [pm_step, pm_push] at hs
    obtain ⟨rfl, rfl⟩ := hok
    rcases st with _ | ⟨v0, st⟩
    · cases hs
    cases v0 <;> first | (cases hs; done) | skip
    all_goals (dsimp only at hs)
    obtain ⟨h1, h2, rfl, rfl⟩ := pm_sto_spec hs
    exact pm_s_istore_n hd rfl (by rw [← hn]; exact h2) h1 h2 k
  case astore_n j =>
    simp only [pm_ok, Bool.and_eq_true, Bool.or_eq_true, beq_iff_eq] at hok
    dsimp only [pm_step, pm_push] at hs
    obtain ⟨rfl, rfl⟩ := hok
    rcases st with _ | ⟨v0, st⟩
    · cases hs
    cases v0 <;> first | (cases hs; done) | skip
    all_goals (dsimp only at hs)
    obtain ⟨h1, h2, rfl, rfl⟩ := pm_sto_spec hs
    exact pm_s_astore_n hd rfl (by rw [← hn]; exact h2) h1 h2 k
  case istore j =>
    simp only [pm_ok, Bool.and_eq_true, Bool.or_eq_true, beq_iff_eq] at hok
    dsimp only [pm_step, pm_push] at hs
    obtain ⟨rfl, rfl⟩ := hok
    rcases st with _ | ⟨v0, st⟩
    · cases hs
    cases v0 <;> first | (cases hs; done) | skip
    all_goals (dsimp only at hs)
    obtain ⟨h1, h2, rfl, rfl⟩ := pm_sto_spec hs
    exact pm_s_istore hd (by rw [← hn]; exact h2) h1 h2 k
  case astore j =>
    simp only [pm_ok, Bool.and_eq_true, Bool.or_eq_true, beq_iff_eq] at hok
    dsimp only [pm_step, pm_push] at hs
    obtain ⟨rfl, rfl⟩ := hok
    rcases st with _ | ⟨v0, st⟩
    · cases hs
    cases v0 <;> first | (cases hs; done) | skip
    all_goals (dsimp only at hs)
    obtain ⟨h1, h2, rfl, rfl⟩ := pm_sto_spec hs
    exact pm_s_astore hd (by rw [← hn]; exact h2) h1 h2 k
  case iinc j z =>
    simp only [pm_ok, Bool.and_eq_true, Bool.or_eq_true, beq_iff_eq] at hok
    dsimp only [pm_step, pm_push] at hs
    obtain ⟨⟨rfl, rfl⟩, hv⟩ := hok
    split at hs
    · rename_i x hx
      obtain ⟨h1, h2, rfl, rfl⟩ := pm_sto_spec hs
      exact pm_s_iinc hd hv hx (by rw [← hn]; exact h2) h1 h2 k
    · cases hs
  case iconst z =>
    simp only [pm_ok, Bool.and_eq_true, Bool.or_eq_true, beq_iff_eq] at hok
    dsimp only [pm_step, pm_push] at hs
    obtain ⟨rfl, hv⟩ := hok
    cases hs
    exact pm_s_iconst hv hd k
  case bipush z =>
    simp only [pm_ok, Bool.and_eq_true, Bool.or_eq_true, beq_iff_eq] at hok
    dsimp only [pm_step, pm_push] at hs
    obtain ⟨rfl, hv⟩ := hok
    cases hs
    exact pm_s_bipush hv hd k
  case sipush z =>
    simp only [pm_ok, Bool.and_eq_true, Bool.or_eq_true, beq_iff_eq] at hok
    dsimp only [pm_step, pm_push] at hs
    obtain ⟨rfl, hv⟩ := hok
    cases hs
    exact pm_s_sipush hv hd k
  case goto z =>
    simp only [pm_ok, Bool.and_eq_true, Bool.or_eq_true, beq_iff_eq] at hok
    dsimp only [pm_step, pm_push] at hs
    obtain ⟨rfl, ht⟩ := hok
    cases hs
    exact pm_s_goto hd ht k
  case getfield z =>
    simp only [pm_ok, Bool.and_eq_true, Bool.or_eq_true, beq_iff_eq] at hok
    dsimp only [pm_step, pm_push] at hs
    obtain ⟨rfl, hf⟩ := hok
    rcases st with _ | ⟨v0, st⟩
    · cases hs
    cases v0 <;> first | (cases hs; done) | skip
    all_goals (dsimp only at hs)
    rename_i r
    cases ho : pm_obf r a b with
    | none => rw [ho] at hs; cases hs
    | some o =>
      obtain ⟨fs, e1, e2⟩ := pm_obf_spec ho
      cases o with
      | none => rw [ho] at hs; cases hs; exact pm_s_geti hf e1 e2 hd k
      | some r1 => rw [ho] at hs; cases hs; exact pm_s_getr hf e1 e2 hd k
  case putfield z =>
    simp only [pm_ok, Bool.and_eq_true, Bool.or_eq_true, beq_iff_eq] at hok
    dsimp only [pm_step, pm_push] at hs
    obtain ⟨rfl, hf⟩ := hok
    rcases st with _ | ⟨v0, _ | ⟨v1, st⟩⟩
    · cases hs
    · cases v0 <;> cases hs
    cases v0 <;> first | (cases hs; done) | skip
    all_goals (cases v1 <;> first | (cases hs; done) | skip)
    all_goals (dsimp only at hs)
    rename_i x r
    cases ho : pm_obf r a b with
    | none => rw [ho] at hs; cases hs
    | some o =>
      obtain ⟨fs, e1, e2⟩ := pm_obf_spec ho
      cases o with
      | some r1 => rw [ho] at hs; cases hs
      | none =>
        rw [ho] at hs
        rcases hf with ⟨rfl, hf⟩ | ⟨rfl, hf⟩
        · simp only [if_pos] at hs
          cases hs
          exact pm_s_puti hf e1 e2 hd k
        · simp only [if_neg (show ¬ (1 : Int32) = 0 by decide)] at hs
          cases hs
          exact pm_s_putz hf hc e1 e2 hd k
  case dup  =>
    simp only [pm_ok, Bool.and_eq_true, Bool.or_eq_true, beq_iff_eq] at hok
    dsimp only [pm_step, pm_push] at hs
    obtain rfl := hok
    rcases st with _ | ⟨v0, st⟩
    · cases hs
    cases v0 <;> first | (cases hs; done) | skip
    all_goals (dsimp only at hs)
    · cases hs; exact pm_s_dupi hd k
    · cases hs; exact pm_s_dupr hd k
  case dup2  =>
    simp only [pm_ok, Bool.and_eq_true, Bool.or_eq_true, beq_iff_eq] at hok
    dsimp only [pm_step, pm_push] at hs
    obtain rfl := hok
    rcases st with _ | ⟨v0, _ | ⟨v1, st⟩⟩
    · cases hs
    · cases v0 <;> cases hs
    cases v0 <;> first | (cases hs; done) | skip
    all_goals (cases v1 <;> first | (cases hs; done) | skip)
    all_goals (dsimp only at hs)
    cases hs
    exact pm_s_dup2 hd k
  case iadd  =>
    simp only [pm_ok, Bool.and_eq_true, Bool.or_eq_true, beq_iff_eq] at hok
    dsimp only [pm_step, pm_push] at hs
    obtain rfl := hok
    rcases st with _ | ⟨v0, _ | ⟨v1, st⟩⟩
    · cases hs
    · cases v0 <;> cases hs
    cases v0 <;> first | (cases hs; done) | skip
    all_goals (cases v1 <;> first | (cases hs; done) | skip)
    all_goals (dsimp only at hs)
    cases hs
    exact pm_s_iadd hd k
  case isub  =>
    simp only [pm_ok, Bool.and_eq_true, Bool.or_eq_true, beq_iff_eq] at hok
    dsimp only [pm_step, pm_push] at hs
    obtain rfl := hok
    rcases st with _ | ⟨v0, _ | ⟨v1, st⟩⟩
    · cases hs
    · cases v0 <;> cases hs
    cases v0 <;> first | (cases hs; done) | skip
    all_goals (cases v1 <;> first | (cases hs; done) | skip)
    all_goals (dsimp only at hs)
    cases hs
    exact pm_s_isub hd k
  case imul  =>
    simp only [pm_ok, Bool.and_eq_true, Bool.or_eq_true, beq_iff_eq] at hok
    dsimp only [pm_step, pm_push] at hs
    obtain rfl := hok
    rcases st with _ | ⟨v0, _ | ⟨v1, st⟩⟩
    · cases hs
    · cases v0 <;> cases hs
    cases v0 <;> first | (cases hs; done) | skip
    all_goals (cases v1 <;> first | (cases hs; done) | skip)
    all_goals (dsimp only at hs)
    cases hs
    exact pm_s_imul hd k
  case iand  =>
    simp only [pm_ok, Bool.and_eq_true, Bool.or_eq_true, beq_iff_eq] at hok
    dsimp only [pm_step, pm_push] at hs
    obtain rfl := hok
    rcases st with _ | ⟨v0, _ | ⟨v1, st⟩⟩
    · cases hs
    · cases v0 <;> cases hs
    cases v0 <;> first | (cases hs; done) | skip
    all_goals (cases v1 <;> first | (cases hs; done) | skip)
    all_goals (dsimp only at hs)
    cases hs
    exact pm_s_iand hd k
  case ior  =>
    simp only [pm_ok, Bool.and_eq_true, Bool.or_eq_true, beq_iff_eq] at hok
    dsimp only [pm_step, pm_push] at hs
    obtain rfl := hok
    rcases st with _ | ⟨v0, _ | ⟨v1, st⟩⟩
    · cases hs
    · cases v0 <;> cases hs
    cases v0 <;> first | (cases hs; done) | skip
    all_goals (cases v1 <;> first | (cases hs; done) | skip)
    all_goals (dsimp only at hs)
    cases hs
    exact pm_s_ior hd k
  case ixor  =>
    simp only [pm_ok, Bool.and_eq_true, Bool.or_eq_true, beq_iff_eq] at hok
    dsimp only [pm_step, pm_push] at hs
    obtain rfl := hok
    rcases st with _ | ⟨v0, _ | ⟨v1, st⟩⟩
    · cases hs
    · cases v0 <;> cases hs
    cases v0 <;> first | (cases hs; done) | skip
    all_goals (cases v1 <;> first | (cases hs; done) | skip)
    all_goals (dsimp only at hs)
    cases hs
    exact pm_s_ixor hd k
  case ishl  =>
    simp only [pm_ok, Bool.and_eq_true, Bool.or_eq_true, beq_iff_eq] at hok
    dsimp only [pm_step, pm_push] at hs
    obtain rfl := hok
    rcases st with _ | ⟨v0, _ | ⟨v1, st⟩⟩
    · cases hs
    · cases v0 <;> cases hs
    cases v0 <;> first | (cases hs; done) | skip
    all_goals (cases v1 <;> first | (cases hs; done) | skip)
    all_goals (dsimp only at hs)
    cases hs
    exact pm_s_ishl hd k
  case ishr  =>
    simp only [pm_ok, Bool.and_eq_true, Bool.or_eq_true, beq_iff_eq] at hok
    dsimp only [pm_step, pm_push] at hs
    obtain rfl := hok
    rcases st with _ | ⟨v0, _ | ⟨v1, st⟩⟩
    · cases hs
    · cases v0 <;> cases hs
    cases v0 <;> first | (cases hs; done) | skip
    all_goals (cases v1 <;> first | (cases hs; done) | skip)
    all_goals (dsimp only at hs)
    cases hs
    exact pm_s_ishr hd k
  case i2l  =>
    simp only [pm_ok, Bool.and_eq_true, Bool.or_eq_true, beq_iff_eq] at hok
    dsimp only [pm_step, pm_push] at hs
    obtain rfl := hok
    rcases st with _ | ⟨v0, st⟩
    · cases hs
    cases v0 <;> first | (cases hs; done) | skip
    all_goals (dsimp only at hs)
    cases hs
    exact pm_s_i2l hd k
  case i2c  =>
    simp only [pm_ok, Bool.and_eq_true, Bool.or_eq_true, beq_iff_eq] at hok
    dsimp only [pm_step, pm_push] at hs
    obtain rfl := hok
    rcases st with _ | ⟨v0, st⟩
    · cases hs
    cases v0 <;> first | (cases hs; done) | skip
    all_goals (dsimp only at hs)
    cases hs
    exact pm_s_i2c hd k
  case pop  =>
    simp only [pm_ok, Bool.and_eq_true, Bool.or_eq_true, beq_iff_eq] at hok
    dsimp only [pm_step, pm_push] at hs
    obtain rfl := hok
    rcases st with _ | ⟨v0, st⟩
    · cases hs
    cases v0 <;> first | (cases hs; done) | skip
    all_goals (dsimp only at hs)
    cases hs
    exact pm_s_popi hd k
  case irem  =>
    simp only [pm_ok, Bool.and_eq_true, Bool.or_eq_true, beq_iff_eq] at hok
    dsimp only [pm_step, pm_push] at hs
    obtain rfl := hok
    rcases st with _ | ⟨v0, _ | ⟨v1, st⟩⟩
    · cases hs
    · cases v0 <;> cases hs
    cases v0 <;> first | (cases hs; done) | skip
    all_goals (cases v1 <;> first | (cases hs; done) | skip)
    all_goals (dsimp only at hs)
    cases hs
    exact pm_s_irem hc hd k
  case idiv  =>
    simp only [pm_ok, Bool.and_eq_true, Bool.or_eq_true, beq_iff_eq] at hok
    dsimp only [pm_step, pm_push] at hs
    obtain rfl := hok
    rcases st with _ | ⟨v0, _ | ⟨v1, st⟩⟩
    · cases hs
    · cases v0 <;> cases hs
    cases v0 <;> first | (cases hs; done) | skip
    all_goals (cases v1 <;> first | (cases hs; done) | skip)
    all_goals (dsimp only at hs)
    cases hs
    exact pm_s_idiv hc hd k
  case iaload  =>
    simp only [pm_ok, Bool.and_eq_true, Bool.or_eq_true, beq_iff_eq] at hok
    dsimp only [pm_step, pm_push] at hs
    obtain rfl := hok
    rcases st with _ | ⟨v0, _ | ⟨v1, st⟩⟩
    · cases hs
    · cases v0 <;> cases hs
    cases v0 <;> first | (cases hs; done) | skip
    all_goals (cases v1 <;> first | (cases hs; done) | skip)
    all_goals (dsimp only at hs)
    rename_i x r
    cases ho : pm_arl 0 r with
    | none => rw [ho] at hs; cases hs
    | some n => rw [ho] at hs; cases hs; exact pm_s_iald (pm_arl_spec ho) hc hd k
  case caload  =>
    simp only [pm_ok, Bool.and_eq_true, Bool.or_eq_true, beq_iff_eq] at hok
    dsimp only [pm_step, pm_push] at hs
    obtain rfl := hok
    rcases st with _ | ⟨v0, _ | ⟨v1, st⟩⟩
    · cases hs
    · cases v0 <;> cases hs
    cases v0 <;> first | (cases hs; done) | skip
    all_goals (cases v1 <;> first | (cases hs; done) | skip)
    all_goals (dsimp only at hs)
    rename_i x r
    cases ho : pm_arl 1 r with
    | none => rw [ho] at hs; cases hs
    | some n => rw [ho] at hs; cases hs; exact pm_s_cald (pm_arl_spec ho) hc hd k
  case laload  =>
    simp only [pm_ok, Bool.and_eq_true, Bool.or_eq_true, beq_iff_eq] at hok
    dsimp only [pm_step, pm_push] at hs
    obtain rfl := hok
    rcases st with _ | ⟨v0, _ | ⟨v1, st⟩⟩
    · cases hs
    · cases v0 <;> cases hs
    cases v0 <;> first | (cases hs; done) | skip
    all_goals (cases v1 <;> first | (cases hs; done) | skip)
    all_goals (dsimp only at hs)
    rename_i x r
    cases ho : pm_arl 2 r with
    | none => rw [ho] at hs; cases hs
    | some n => rw [ho] at hs; cases hs; exact pm_s_lald (pm_arl_spec ho) hc hd k
  case iastore  =>
    simp only [pm_ok, Bool.and_eq_true, Bool.or_eq_true, beq_iff_eq] at hok
    dsimp only [pm_step, pm_push] at hs
    obtain rfl := hok
    rcases st with _ | ⟨v0, _ | ⟨v1, _ | ⟨v2, st⟩⟩⟩
    · cases hs
    · cases v0 <;> cases hs
    · cases v0 <;> first | (cases hs; done) | (cases v1 <;> cases hs)
    cases v0 <;> first | (cases hs; done) | skip
    all_goals (cases v1 <;> first | (cases hs; done) | skip)
    all_goals (cases v2 <;> first | (cases hs; done) | skip)
    all_goals (dsimp only at hs)
    rename_i x j r
    cases ho : pm_arl 0 r with
    | none => rw [ho] at hs; cases hs
    | some n => rw [ho] at hs; cases hs; exact pm_s_iast (pm_arl_spec ho) hc hd k
  case arraylength  =>
    simp only [pm_ok, Bool.and_eq_true, Bool.or_eq_true, beq_iff_eq] at hok
    dsimp only [pm_step, pm_push] at hs
    obtain rfl := hok
    rcases st with _ | ⟨v0, st⟩
    · cases hs
    cases v0 <;> first | (cases hs; done) | skip
    all_goals (dsimp only at hs)
    rename_i r
    cases ho : pm_arl 0 r with
    | none => rw [ho] at hs; cases hs
    | some n => rw [ho] at hs; cases hs; exact pm_s_alen (pm_arl_spec ho) hd k
  all_goals (simp [pm_step] at hs)
theorem pm_step_len {i : pm_PI} {q q1 : pm_St} {c : Option Prop} (hs : pm_step i q = some (q1, c)) : q1.2.1.length = q.2.1.length := by
  unfold pm_step pm_push pm_sto at hs
  repeat' split at hs
  all_goals first | (cases hs; done) | (cases hs; first | rfl | simp)
theorem pm_step_pc {i : pm_PI} {q q1 : pm_St} {c : Option Prop} (hs : pm_step i q = some (q1, c)) : q1.1 = (match i.1 with | .goto _ => i.2.2.1 | _ => q.1 + i.2.1) := by
  unfold pm_step pm_push pm_sto at hs
  repeat' split at hs
  all_goals first | (cases hs; done) | (rename_i h9 _; cases hs; rw [h9]) | (rename_i h9 _ _; cases hs; rw [h9]) | (rename_i h9 _ _ _; cases hs; rw [h9]) | (rename_i h9 _ _ _ _; cases hs; rw [h9]) | (cases hs; simp_all)
theorem pm_block (is : List pm_PI) : ∀ {q q1 : pm_St} {vc : Prop}, q.2.1.length = pm_nL mi → pm_code (pm_id mi) (pm_cc mi) q.1 is = true → pm_run is q = some (q1, vc) → vc → pm_V mi T kc ks q1.1 q1.2.1 q1.2.2.1 q1.2.2.2 → pm_V mi T kc ks q.1 q.2.1 q.2.2.1 q.2.2.2 := by
  induction is with
  | nil =>
    intro q q1 vc _ _ hr _ k
    cases hr
    exact k
  | cons i is ih =>
    intro q q1 vc hn hcd hr hv k
    simp only [pm_code, Bool.and_eq_true, decide_eq_true_eq] at hcd
    obtain ⟨hd, hok, hcd⟩ := hcd
    unfold pm_run at hr
    split at hr
    · rename_i q2 hs
      exact pm_step_ok i q q2 none hn hd hok hs trivial (ih ((pm_step_len hs).trans hn) (by rw [pm_step_pc hs]; exact hcd) hr hv k)
    · rename_i q2 c hs
      split at hr
      · rename_i q3 d hr2
        cases hr
        exact pm_step_ok i q q2 (some c) hn hd hok hs hv.1 (ih ((pm_step_len hs).trans hn) (by rw [pm_step_pc hs]; exact hcd) hr2 hv.2 k)
      · cases hr
    · cases hr
variable {pc : Nat} {lo : List (Option Value)} {st : List Value} {μ : pm_Mm}
/-- the row that the proofs use: instructions from pc on, the state behind them, what must hold -/
theorem pm_bl (is : List pm_PI) {pc1 : Nat} {lo1 : List (Option Value)} {st1 : List Value} {μ1 : pm_Mm} {vc : Prop} (hn : lo.length = pm_nL mi) (hcd : pm_code (pm_id mi) (pm_cc mi) pc is = true) (hr : pm_run is (pc, lo, st, μ) = some ((pc1, lo1, st1, μ1), vc)) (hv : vc) (k : pm_V mi T kc ks pc1 lo1 st1 μ1) : pm_V mi T kc ks pc lo st μ :=
  pm_block is (q := (pc, lo, st, μ)) (q1 := (pc1, lo1, st1, μ1)) hn hcd hr hv k
theorem pm_icmp_eq {x y : Int32} {off : Int} (tgt : Nat) (hd : decode (pm_cc mi) pc = .ok (.if_icmp .eq off, 3)) (ht : (pc : Int) + off = (tgt : Int)) (k1 : x = y → pm_V mi T kc ks tgt lo st μ) (k2 : ¬ (x = y) → pm_V mi T kc ks (pc + 3) lo st μ) : pm_V mi T kc ks pc lo (.int y :: .int x :: st) μ := by
  intro p l e s m args below meth c D tc ad A hO H locs cells slots ls hc hs hP hD hS hlv
  obtain ⟨hx, hb, hml, hown, hts, hr, hlk, htr, hst, hA, htab, hZ⟩ := id hO
  obtain ⟨hK, hNw, hStr, hCs, hDc, hNc, hU, hN⟩ := id hst
  exact lv_icmp_eq hx hb hd ht (fun h9 => k1 h9 p l e s m args below meth c D tc ad A hO H locs cells slots ls hc hs hP hD hS hlv) (fun h9 => k2 h9 p l e s m args below meth c D tc ad A hO H locs cells slots ls hc hs hP hD hS hlv)
theorem pm_icmp_ne {x y : Int32} {off : Int} (tgt : Nat) (hd : decode (pm_cc mi) pc = .ok (.if_icmp .ne off, 3)) (ht : (pc : Int) + off = (tgt : Int)) (k1 : ¬ x = y → pm_V mi T kc ks tgt lo st μ) (k2 : x = y → pm_V mi T kc ks (pc + 3) lo st μ) : pm_V mi T kc ks pc lo (.int y :: .int x :: st) μ := by
  intro p l e s m args below meth c D tc ad A hO H locs cells slots ls hc hs hP hD hS hlv
  obtain ⟨hx, hb, hml, hown, hts, hr, hlk, htr, hst, hA, htab, hZ⟩ := id hO
  obtain ⟨hK, hNw, hStr, hCs, hDc, hNc, hU, hN⟩ := id hst
  exact lv_icmp_ne hx hb hd ht (fun h9 => k1 h9 p l e s m args below meth c D tc ad A hO H locs cells slots ls hc hs hP hD hS hlv) (fun h9 => k2 h9 p l e s m args below meth c D tc ad A hO H locs cells slots ls hc hs hP hD hS hlv)
theorem pm_icmp_lt {x y : Int32} {off : Int} (tgt : Nat) (hd : decode (pm_cc mi) pc = .ok (.if_icmp .lt off, 3)) (ht : (pc : Int) + off = (tgt : Int)) (k1 : x < y → pm_V mi T kc ks tgt lo st μ) (k2 : ¬ (x < y) → pm_V mi T kc ks (pc + 3) lo st μ) : pm_V mi T kc ks pc lo (.int y :: .int x :: st) μ := by
  intro p l e s m args below meth c D tc ad A hO H locs cells slots ls hc hs hP hD hS hlv
  obtain ⟨hx, hb, hml, hown, hts, hr, hlk, htr, hst, hA, htab, hZ⟩ := id hO
  obtain ⟨hK, hNw, hStr, hCs, hDc, hNc, hU, hN⟩ := id hst
  exact lv_icmp_lt hx hb hd ht (fun h9 => k1 h9 p l e s m args below meth c D tc ad A hO H locs cells slots ls hc hs hP hD hS hlv) (fun h9 => k2 h9 p l e s m args below meth c D tc ad A hO H locs cells slots ls hc hs hP hD hS hlv)
theorem pm_icmp_ge {x y : Int32} {off : Int} (tgt : Nat) (hd : decode (pm_cc mi) pc = .ok (.if_icmp .ge off, 3)) (ht : (pc : Int) + off = (tgt : Int)) (k1 : y ≤ x → pm_V mi T kc ks tgt lo st μ) (k2 : ¬ (y ≤ x) → pm_V mi T kc ks (pc + 3) lo st μ) : pm_V mi T kc ks pc lo (.int y :: .int x :: st) μ := by
  intro p l e s m args below meth c D tc ad A hO H locs cells slots ls hc hs hP hD hS hlv
  obtain ⟨hx, hb, hml, hown, hts, hr, hlk, htr, hst, hA, htab, hZ⟩ := id hO
  obtain ⟨hK, hNw, hStr, hCs, hDc, hNc, hU, hN⟩ := id hst
  exact lv_icmp_ge hx hb hd ht (fun h9 => k1 h9 p l e s m args below meth c D tc ad A hO H locs cells slots ls hc hs hP hD hS hlv) (fun h9 => k2 h9 p l e s m args below meth c D tc ad A hO H locs cells slots ls hc hs hP hD hS hlv)
theorem pm_icmp_gt {x y : Int32} {off : Int} (tgt : Nat) (hd : decode (pm_cc mi) pc = .ok (.if_icmp .gt off, 3)) (ht : (pc : Int) + off = (tgt : Int)) (k1 : y < x → pm_V mi T kc ks tgt lo st μ) (k2 : ¬ (y < x) → pm_V mi T kc ks (pc + 3) lo st μ) : pm_V mi T kc ks pc lo (.int y :: .int x :: st) μ := by
  intro p l e s m args below meth c D tc ad A hO H locs cells slots ls hc hs hP hD hS hlv
  obtain ⟨hx, hb, hml, hown, hts, hr, hlk, htr, hst, hA, htab, hZ⟩ := id hO
  obtain ⟨hK, hNw, hStr, hCs, hDc, hNc, hU, hN⟩ := id hst
  exact lv_icmp_gt hx hb hd ht (fun h9 => k1 h9 p l e s m args below meth c D tc ad A hO H locs cells slots ls hc hs hP hD hS hlv) (fun h9 => k2 h9 p l e s m args below meth c D tc ad A hO H locs cells slots ls hc hs hP hD hS hlv)
theorem pm_icmp_le {x y : Int32} {off : Int} (tgt : Nat) (hd : decode (pm_cc mi) pc = .ok (.if_icmp .le off, 3)) (ht : (pc : Int) + off = (tgt : Int)) (k1 : x ≤ y → pm_V mi T kc ks tgt lo st μ) (k2 : ¬ (x ≤ y) → pm_V mi T kc ks (pc + 3) lo st μ) : pm_V mi T kc ks pc lo (.int y :: .int x :: st) μ := by
  intro p l e s m args below meth c D tc ad A hO H locs cells slots ls hc hs hP hD hS hlv
  obtain ⟨hx, hb, hml, hown, hts, hr, hlk, htr, hst, hA, htab, hZ⟩ := id hO
  obtain ⟨hK, hNw, hStr, hCs, hDc, hNc, hU, hN⟩ := id hst
  exact lv_icmp_le hx hb hd ht (fun h9 => k1 h9 p l e s m args below meth c D tc ad A hO H locs cells slots ls hc hs hP hD hS hlv) (fun h9 => k2 h9 p l e s m args below meth c D tc ad A hO H locs cells slots ls hc hs hP hD hS hlv)
theorem pm_if_eq {x : Int32} {off : Int} (tgt : Nat) (hd : decode (pm_cc mi) pc = .ok (.ifCond .eq off, 3)) (ht : (pc : Int) + off = (tgt : Int)) (k1 : x = 0 → pm_V mi T kc ks tgt lo st μ) (k2 : ¬ (x = 0) → pm_V mi T kc ks (pc + 3) lo st μ) : pm_V mi T kc ks pc lo (.int x :: st) μ := by
  intro p l e s m args below meth c D tc ad A hO H locs cells slots ls hc hs hP hD hS hlv
  obtain ⟨hx, hb, hml, hown, hts, hr, hlk, htr, hst, hA, htab, hZ⟩ := id hO
  obtain ⟨hK, hNw, hStr, hCs, hDc, hNc, hU, hN⟩ := id hst
  exact lv_if_eq hx hb hd ht (fun h9 => k1 h9 p l e s m args below meth c D tc ad A hO H locs cells slots ls hc hs hP hD hS hlv) (fun h9 => k2 h9 p l e s m args below meth c D tc ad A hO H locs cells slots ls hc hs hP hD hS hlv)
theorem pm_if_ne {x : Int32} {off : Int} (tgt : Nat) (hd : decode (pm_cc mi) pc = .ok (.ifCond .ne off, 3)) (ht : (pc : Int) + off = (tgt : Int)) (k1 : ¬ x = 0 → pm_V mi T kc ks tgt lo st μ) (k2 : x = 0 → pm_V mi T kc ks (pc + 3) lo st μ) : pm_V mi T kc ks pc lo (.int x :: st) μ := by
  intro p l e s m args below meth c D tc ad A hO H locs cells slots ls hc hs hP hD hS hlv
  obtain ⟨hx, hb, hml, hown, hts, hr, hlk, htr, hst, hA, htab, hZ⟩ := id hO
  obtain ⟨hK, hNw, hStr, hCs, hDc, hNc, hU, hN⟩ := id hst
  exact lv_if_ne hx hb hd ht (fun h9 => k1 h9 p l e s m args below meth c D tc ad A hO H locs cells slots ls hc hs hP hD hS hlv) (fun h9 => k2 h9 p l e s m args below meth c D tc ad A hO H locs cells slots ls hc hs hP hD hS hlv)
theorem pm_if_lt {x : Int32} {off : Int} (tgt : Nat) (hd : decode (pm_cc mi) pc = .ok (.ifCond .lt off, 3)) (ht : (pc : Int) + off = (tgt : Int)) (k1 : x < 0 → pm_V mi T kc ks tgt lo st μ) (k2 : ¬ (x < 0) → pm_V mi T kc ks (pc + 3) lo st μ) : pm_V mi T kc ks pc lo (.int x :: st) μ := by
  intro p l e s m args below meth c D tc ad A hO H locs cells slots ls hc hs hP hD hS hlv
  obtain ⟨hx, hb, hml, hown, hts, hr, hlk, htr, hst, hA, htab, hZ⟩ := id hO
  obtain ⟨hK, hNw, hStr, hCs, hDc, hNc, hU, hN⟩ := id hst
  exact lv_if_lt hx hb hd ht (fun h9 => k1 h9 p l e s m args below meth c D tc ad A hO H locs cells slots ls hc hs hP hD hS hlv) (fun h9 => k2 h9 p l e s m args below meth c D tc ad A hO H locs cells slots ls hc hs hP hD hS hlv)
theorem pm_if_ge {x : Int32} {off : Int} (tgt : Nat) (hd : decode (pm_cc mi) pc = .ok (.ifCond .ge off, 3)) (ht : (pc : Int) + off = (tgt : Int)) (k1 : 0 ≤ x → pm_V mi T kc ks tgt lo st μ) (k2 : ¬ (0 ≤ x) → pm_V mi T kc ks (pc + 3) lo st μ) : pm_V mi T kc ks pc lo (.int x :: st) μ := by
  intro p l e s m args below meth c D tc ad A hO H locs cells slots ls hc hs hP hD hS hlv
  obtain ⟨hx, hb, hml, hown, hts, hr, hlk, htr, hst, hA, htab, hZ⟩ := id hO
  obtain ⟨hK, hNw, hStr, hCs, hDc, hNc, hU, hN⟩ := id hst
  exact lv_if_ge hx hb hd ht (fun h9 => k1 h9 p l e s m args below meth c D tc ad A hO H locs cells slots ls hc hs hP hD hS hlv) (fun h9 => k2 h9 p l e s m args below meth c D tc ad A hO H locs cells slots ls hc hs hP hD hS hlv)
theorem pm_if_gt {x : Int32} {off : Int} (tgt : Nat) (hd : decode (pm_cc mi) pc = .ok (.ifCond .gt off, 3)) (ht : (pc : Int) + off = (tgt : Int)) (k1 : 0 < x → pm_V mi T kc ks tgt lo st μ) (k2 : ¬ (0 < x) → pm_V mi T kc ks (pc + 3) lo st μ) : pm_V mi T kc ks pc lo (.int x :: st) μ := by
  intro p l e s m args below meth c D tc ad A hO H locs cells slots ls hc hs hP hD hS hlv
  obtain ⟨hx, hb, hml, hown, hts, hr, hlk, htr, hst, hA, htab, hZ⟩ := id hO
  obtain ⟨hK, hNw, hStr, hCs, hDc, hNc, hU, hN⟩ := id hst
  exact lv_if_gt hx hb hd ht (fun h9 => k1 h9 p l e s m args below meth c D tc ad A hO H locs cells slots ls hc hs hP hD hS hlv) (fun h9 => k2 h9 p l e s m args below meth c D tc ad A hO H locs cells slots ls hc hs hP hD hS hlv)
theorem pm_if_le {x : Int32} {off : Int} (tgt : Nat) (hd : decode (pm_cc mi) pc = .ok (.ifCond .le off, 3)) (ht : (pc : Int) + off = (tgt : Int)) (k1 : x ≤ 0 → pm_V mi T kc ks tgt lo st μ) (k2 : ¬ (x ≤ 0) → pm_V mi T kc ks (pc + 3) lo st μ) : pm_V mi T kc ks pc lo (.int x :: st) μ := by
  intro p l e s m args below meth c D tc ad A hO H locs cells slots ls hc hs hP hD hS hlv
  obtain ⟨hx, hb, hml, hown, hts, hr, hlk, htr, hst, hA, htab, hZ⟩ := id hO
  obtain ⟨hK, hNw, hStr, hCs, hDc, hNc, hU, hN⟩ := id hst
  exact lv_if_le hx hb hd ht (fun h9 => k1 h9 p l e s m args below meth c D tc ad A hO H locs cells slots ls hc hs hP hD hS hlv) (fun h9 => k2 h9 p l e s m args below meth c D tc ad A hO H locs cells slots ls hc hs hP hD hS hlv)
end PMB
