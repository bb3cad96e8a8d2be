/-! the first memory, and its cells -/
def gm_m0 : pm_Mm := (fun i k => if i = 0 then (if k = 5 then -1 else if k = 6 then -1 else 0) else if i = 47 then (if k = 13 then -1 else 0) else 0, fun _ => 0, fun _ => 0, [])
theorem gm_m0_z {i : Nat} (h0 : i ≠ 0) (h1 : i ≠ 47) : gm_m0.1 i = gm_z.1 i := by
  funext k
  show (if i = 0 then _ else if i = 47 then _ else (0 : Int32)) = 0
  rw [if_neg h0, if_neg h1]
def gm_z0 : Nat → Int32 := fun _ => 0
theorem gm_z0_n (i : Nat) : lr_n gm_z0 i = 0 := by unfold lr_n gm_z0; decide
theorem gm_z0_G : lr_G gm_z0 := by
  unfold lr_G
  simp only [gm_z0_n]
  and_intros
  all_goals first | decide | (intro i hi; exact absurd hi (Nat.not_lt_zero _)) | (intro i; exact fun hi => absurd hi (Nat.not_lt_zero _)) | rfl
theorem gm_z0_I : lr_I gm_z0 := by
  refine ⟨gm_z0_G, fun d _ => ?_, fun i j hi _ => ?_, ?_, fun l hl => ?_⟩
  · unfold lr_rnd; rw [gm_z0_n]; rfl
  · rw [gm_z0_n] at hi; exact absurd hi (Nat.not_lt_zero _)
  · unfold lr_C
    simp only [gm_z0_n]
    and_intros
    all_goals first | decide | (intro i hi; exact absurd hi (Nat.not_lt_zero _)) | (intro i d hi; exact absurd hi (Nat.not_lt_zero _)) | rfl
  · rw [gm_z0_n] at hl; exact absurd hl (Nat.not_lt_zero _)
theorem gm_m0_R : lr_Rel gm_m0.1 1 gm_z0 := by
  unfold lr_Rel lr_Rh lr_Rp lr_Rw lr_Rr lr_Ra lr_Rl
  simp only [gm_z0_n]
  and_intros
  all_goals first | rfl | (intro i hi; exact absurd hi (Nat.not_lt_zero _)) | (intro i d hi; exact absurd hi (Nat.not_lt_zero _))
theorem gm_m0_V : lr_V gm_m0.1 :=
  ⟨gm_z0, 0, 0, fun _ => gm_z0, gm_m0_z (i := 48) (by decide) (by decide), gm_z0_I, gm_m0_R, ⟨by decide, by decide, rfl, rfl, fun k hk => absurd hk (Nat.not_lt_zero _)⟩, lr_Ps.z rfl, fun k hk => absurd hk (Nat.not_lt_zero _), Or.inl ⟨rfl, rfl⟩, rfl, Or.inl ⟨rfl, rfl⟩, lr_Vt.z rfl rfl⟩
/-- the cells of shapes S over a memory -/
def gm_cm (tc : Nat → ClassId) (ad : Nat → Nat) (μ : pm_Mm) : Nat → List pm_Sh → va_W
  | _, [] => []
  | k, x :: S => (ad k, pm_ce tc ad μ k x) :: gm_cm tc ad μ (k + 1) S
theorem gm_cm_map {tc : Nat → ClassId} {ad : Nat → Nat} {μ : pm_Mm} : ∀ (S : List pm_Sh) (k : Nat), S.mapIdx (fun i x => (ad (k + i), pm_ce tc ad μ (k + i) x)) = gm_cm tc ad μ k S
  | [], _ => rfl
  | x :: S, k => by
    have e : (fun (i : Nat) (y : pm_Sh) => ((ad (k + (i + 1)), pm_ce tc ad μ (k + (i + 1)) y) : Nat × va_E)) = fun i y => (ad (k + 1 + i), pm_ce tc ad μ (k + 1 + i) y) := by
      funext i y
      rw [show k + (i + 1) = k + 1 + i by omega]
    rw [List.mapIdx_cons]
    show (ad k, pm_ce tc ad μ k x) :: S.mapIdx (fun i y => (ad (k + (i + 1)), pm_ce tc ad μ (k + (i + 1)) y)) = _
    rw [e, gm_cm_map S (k + 1)]
    rfl
theorem gm_cm_at {tc : Nat → ClassId} {ad : Nat → Nat} {μ : pm_Mm} : ∀ {S1 S2 : List pm_Sh} {k k2 : Nat}, k + S1.length = k2 → gm_cm tc ad μ k (S1 ++ S2) = gm_cm tc ad μ k S1 ++ gm_cm tc ad μ k2 S2
  | [], _, k, k2, h => by
    have e : k = k2 := h
    subst e
    rfl
  | x :: S1, S2, k, k2, h => by
    rw [List.cons_append, gm_cm, gm_cm, gm_cm_at (S1 := S1) (k := k + 1) (k2 := k2) (by rw [List.length_cons] at h; omega)]
    rfl
theorem gm_cm_z {tc : Nat → ClassId} {ad : Nat → Nat} {μ : pm_Mm} (h2 : μ.2.1 = gm_z.2.1) (h3 : μ.2.2.1 = gm_z.2.2.1) : ∀ (S : List pm_Sh) (k : Nat), (∀ i, k ≤ i → i < k + S.length → μ.1 i = gm_z.1 i) → gm_cm tc ad μ k S = gm_cl tc ad k S
  | [], _, _ => rfl
  | x :: S, k, h => by
    rw [gm_cm, gm_cl, gm_cm_z h2 h3 S (k + 1) (fun i h4 h5 => h i (by omega) (by rw [List.length_cons]; omega)), pm_ce_off (μ := gm_z) (h k (Nat.le_refl _) (by rw [List.length_cons]; omega)) h2 h3]
set_option maxRecDepth 100000 in
theorem gm_off_sh (tc : Nat → ClassId) (ad : Nat → Nat) (b : Nat) : gm_cl tc ad b (pm_off b) = gm_cells tc (fun i => ad (b + i)) (pm_off 0) := by
  rw [gm_off_cells]
  rfl
theorem gm_off_to {tc : Nat → ClassId} {ad f : Nat → Nat} {b : Nat} (h : ∀ i, i < 39 → ad (b + i) = f i) : gm_cl tc ad b (pm_off b) = gm_cells tc f (pm_off 0) := by
  rw [gm_off_sh, gm_off_cells, gm_off_cells]
  simp only [h 0 (by decide), h 1 (by decide), h 2 (by decide), h 3 (by decide), h 4 (by decide), h 5 (by decide), h 6 (by decide), h 7 (by decide), h 8 (by decide), h 9 (by decide), h 10 (by decide), h 11 (by decide), h 12 (by decide), h 13 (by decide), h 14 (by decide), h 15 (by decide), h 16 (by decide), h 17 (by decide), h 18 (by decide), h 19 (by decide), h 20 (by decide), h 21 (by decide), h 22 (by decide), h 23 (by decide), h 24 (by decide), h 25 (by decide), h 26 (by decide), h 27 (by decide), h 28 (by decide), h 29 (by decide), h 30 (by decide), h 31 (by decide), h 32 (by decide), h 33 (by decide), h 34 (by decide), h 35 (by decide), h 36 (by decide), h 37 (by decide), h 38 (by decide)]
/-- the places of the run -/
def gm_ad (r hh q ql qd a : Nat) (fo fs ft fm : Nat → Nat) (fh : Nat → Nat → Nat) : Nat → Nat := fun i => if i = 0 then r else if i < 40 then fo (i - 1) else if i < 45 then ft (i - 40) else if i = 45 then hh else if i = 46 then q else if i < 55 then fm (i - 47) else if i = 55 then ql else if i = 56 then qd else if i < 96 then fs (i - 57) else if i < 408 then fh ((i - 96) / 39) ((i - 96) % 39) else a
set_option maxHeartbeats 4000000 in
set_option maxRecDepth 100000 in
theorem gm_ws0 (tc : Nat → ClassId) (ad : Nat → Nat) : pm_ws tc ad gm_m0 = gm_cm tc ad gm_m0 0 [.inr (9, [some 1, some 45, some 57, none, some 40, none, none])] ++ (gm_cl tc ad 1 (pm_off 1) ++ (gm_cm tc ad gm_m0 40 [.inr (1, [none, none, some 41, some 42, some 43, some 44, none]), .inl (0, 40), .inl (0, 40), .inl (0, 40), .inl (1, 40), .inr (2, [none, none, some 46]), .inl (4, 8), .inr (10, [some 48, some 49, some 50, none, some 51, none, none, none, some 52, none, some 53, none, none, none, some 54, none]), .inl (0, 620), .inl (0, 620), .inl (0, 620), .inl (0, 4960), .inl (0, 40), .inl (0, 40), .inl (0, 48), .inl (2, 1), .inl (3, 1)] ++ (gm_cl tc ad 57 (pm_off 57) ++ (gm_cl tc ad 96 (pm_off 96) ++ (gm_cl tc ad 135 (pm_off 135) ++ (gm_cl tc ad 174 (pm_off 174) ++ (gm_cl tc ad 213 (pm_off 213) ++ (gm_cl tc ad 252 (pm_off 252) ++ (gm_cl tc ad 291 (pm_off 291) ++ (gm_cl tc ad 330 (pm_off 330) ++ (gm_cl tc ad 369 (pm_off 369)))))))))))) := by
  have e0 : pm_ws tc ad gm_m0 = gm_cm tc ad gm_m0 0 pm_sh := by
    unfold pm_ws
    rw [show gm_m0.2.2.2 = [] from rfl, List.append_nil, ← gm_cm_map]
    simp only [Nat.zero_add]
  have hz : ∀ b, 1 ≤ b → (b + 39 ≤ 47 ∨ 48 ≤ b) → gm_cm tc ad gm_m0 b (pm_off b) = gm_cl tc ad b (pm_off b) := fun b h1 h2 => gm_cm_z (μ := gm_m0) rfl rfl _ _ (fun i h3 h4 => by
    rw [show (pm_off b).length = 39 from rfl] at h4
    exact gm_m0_z (by omega) (by omega))
  rw [e0]
  unfold pm_sh
  rw [gm_cm_at (k := 0) (k2 := 1) rfl, gm_cm_at (k := 1) (k2 := 40) rfl, gm_cm_at (k := 40) (k2 := 57) rfl, gm_cm_at (k := 57) (k2 := 96) rfl, gm_cm_at (k := 96) (k2 := 135) rfl, gm_cm_at (k := 135) (k2 := 174) rfl, gm_cm_at (k := 174) (k2 := 213) rfl, gm_cm_at (k := 213) (k2 := 252) rfl, gm_cm_at (k := 252) (k2 := 291) rfl, gm_cm_at (k := 291) (k2 := 330) rfl, gm_cm_at (k := 330) (k2 := 369) rfl]
  rw [hz 1 (by decide) (by decide), hz 57 (by decide) (by decide), hz 96 (by decide) (by decide), hz 135 (by decide) (by decide), hz 174 (by decide) (by decide), hz 213 (by decide) (by decide), hz 252 (by decide) (by decide), hz 291 (by decide) (by decide), hz 330 (by decide) (by decide), hz 369 (by decide) (by decide)]
