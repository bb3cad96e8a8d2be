/-! the class: what several calls test; its history as a whole -/
set_option maxHeartbeats 4000000 in
set_option maxRecDepth 100000 in
theorem c_X9_isStreet (x : Int32) (μ : pm_Mm) : pm_CT mi_X9_isStreet [.int x] μ (fun v μ2 => v = some (.int (lr_b (lr_be x 5))) ∧ μ2 = μ) pm_NX := by
  refine pm_CT_of (lo := [some (.int x)]) (by decide +kernel) rfl rfl (by intro v hv; simp at hv; rcases hv with rfl; rfl) (Nat.le_of_ble_eq_true rfl) rfl ?_
  refine pm_bl [(.iload_n 0, 1, 0, 0, 0), (.iconst 5, 1, 0, 0, 5)] (pc1 := 2) (lo1 := [some (.int x)]) (st1 := [.int 5, .int x]) (μ1 := μ) (vc := True) rfl (by decide +kernel) rfl trivial ?_
  refine pm_callS2 mi_X9_isBelow (ix := 130) (kc2 := 0) (ks2 := 0) (As := [.int x, .int 5]) (rest := []) (c_X9_isBelow x 5 μ) cal_X9_isBelow lk9_130 (by decide +kernel) rfl (by decide +kernel) rfl rfl (Nat.le_of_ble_eq_true rfl) (by decide) (by decide) (fun _ _ h9 => h9.elim) ?_
  rintro _ _ ⟨rfl, h9⟩; rw [h9]; clear h9
  show pm_V _ _ _ _ 5 _ [.int (lr_b (lr_be x 5))] _
  exact pm_iret (ty := .boolean) rfl (lr_bnar _) (by decide) (by decide) (by decide +kernel) (⟨rfl, rfl⟩)
set_option maxHeartbeats 4000000 in
set_option maxRecDepth 100000 in
theorem c_X9_isHouseNumber (x : Int32) (μ : pm_Mm) : pm_CT mi_X9_isHouseNumber [.int x] μ (fun v μ2 => v = some (.int (lr_b (lr_in x 1 99))) ∧ μ2 = μ) pm_NX := by
  refine pm_CT_of (lo := [some (.int x)]) (by decide +kernel) rfl rfl (by intro v hv; simp at hv; rcases hv with rfl; rfl) (Nat.le_of_ble_eq_true rfl) rfl ?_
  refine pm_bl [(.iload_n 0, 1, 0, 0, 0), (.iconst 1, 1, 0, 0, 1), (.bipush 99, 2, 0, 0, 99)] (pc1 := 4) (lo1 := [some (.int x)]) (st1 := [.int 99, .int 1, .int x]) (μ1 := μ) (vc := True) rfl (by decide +kernel) rfl trivial ?_
  refine pm_callS2 mi_X9_isBetween (ix := 102) (kc2 := 0) (ks2 := 0) (As := [.int x, .int 1, .int 99]) (rest := []) (c_X9_isBetween x 1 99 μ) cal_X9_isBetween lk9_102 (by decide +kernel) rfl (by decide +kernel) rfl rfl (Nat.le_of_ble_eq_true rfl) (by decide) (by decide) (fun _ _ h9 => h9.elim) ?_
  rintro _ _ ⟨rfl, h9⟩; rw [h9]; clear h9
  show pm_V _ _ _ _ 7 _ [.int (lr_b (lr_in x 1 99))] _
  exact pm_iret (ty := .boolean) rfl (lr_bnar _) (by decide) (by decide) (by decide +kernel) (⟨rfl, rfl⟩)
set_option maxHeartbeats 4000000 in
set_option maxRecDepth 100000 in
theorem c_X9_requireHouse {g : Nat → Int32} (x : Int32) (μ : pm_Mm) (hR : lr_Rel μ.1 1 g) (hG : lr_G g) (hb : lr_be x (nI (lr_n g 2)) = true) : pm_CT mi_X9_requireHouse [.ref 0, .int x] μ (fun v μ2 => v = none ∧ μ2 = μ) pm_NX := by
  refine pm_CT_of (lo := [some (.ref 0), some (.int x)]) (by decide +kernel) rfl rfl (by intro v hv; simp at hv; rcases hv with rfl | rfl <;> rfl) (Nat.le_of_ble_eq_true rfl) rfl ?_
  refine pm_bl [(.iload_n 1, 1, 1, 0, 0), (.aload_n 0, 1, 0, 0, 0), (.getfield 10, 3, 9, 0, 0), (.getfield 58, 3, 5, 0, 0), (.getfield 70, 3, 3, 0, 0)] (pc1 := 11) (lo1 := [some (.ref 0), some (.int x)]) (st1 := [.int (μ.1 2 0), .int x]) (μ1 := μ) (vc := True) rfl (by decide +kernel) rfl trivial ?_
  rw [lr_rNh hR, lr_gh hG]
  refine pm_callS2 mi_X9_isBelow (ix := 130) (kc2 := 0) (ks2 := 0) (As := [.int x, .int (nI (lr_n g 2))]) (rest := []) (c_X9_isBelow x (nI (lr_n g 2)) μ) cal_X9_isBelow lk9_130 (by decide +kernel) rfl (by decide +kernel) rfl rfl (Nat.le_of_ble_eq_true rfl) (by decide) (by decide) (fun _ _ h9 => h9.elim) ?_
  rintro _ _ ⟨rfl, h9⟩; rw [h9]; clear h9
  show pm_V _ _ _ _ 14 _ [.int (lr_b (lr_be x (nI (lr_n g 2))))] _
  refine pm_ifb_ne (off := 14) 28 (by decide +kernel) (by decide) (fun (h14 : (lr_be x (nI (lr_n g 2))) = true) => ?_) (fun (h9 : (lr_be x (nI (lr_n g 2))) = false) => absurd (hb.symm.trans h9) (by decide))
  exact pm_vret rfl (by decide) (by decide) (by decide +kernel) (⟨rfl, rfl⟩)
set_option maxHeartbeats 4000000 in
set_option maxRecDepth 100000 in
theorem c_X9_requireHouse_no {g : Nat → Int32} (x : Int32) (μ : pm_Mm) (hR : lr_Rel μ.1 1 g) (hG : lr_G g) (hb : lr_be x (nI (lr_n g 2)) = false) : pm_CT mi_X9_requireHouse [.ref 0, .int x] μ (fun _ _ => False) (fun E μ2 => E = "java/lang/IndexOutOfBoundsException" ∧ μ2 = μ) := by
  refine pm_CT_of (lo := [some (.ref 0), some (.int x)]) (by decide +kernel) rfl rfl (by intro v hv; simp at hv; rcases hv with rfl | rfl <;> rfl) (Nat.le_of_ble_eq_true rfl) rfl ?_
  refine pm_bl [(.iload_n 1, 1, 1, 0, 0), (.aload_n 0, 1, 0, 0, 0), (.getfield 10, 3, 9, 0, 0), (.getfield 58, 3, 5, 0, 0), (.getfield 70, 3, 3, 0, 0)] (pc1 := 11) (lo1 := [some (.ref 0), some (.int x)]) (st1 := [.int (μ.1 2 0), .int x]) (μ1 := μ) (vc := True) rfl (by decide +kernel) rfl trivial ?_
  rw [lr_rNh hR, lr_gh hG]
  refine pm_callS2 mi_X9_isBelow (ix := 130) (kc2 := 0) (ks2 := 0) (As := [.int x, .int (nI (lr_n g 2))]) (rest := []) (c_X9_isBelow x (nI (lr_n g 2)) μ) cal_X9_isBelow lk9_130 (by decide +kernel) rfl (by decide +kernel) rfl rfl (Nat.le_of_ble_eq_true rfl) (by decide) (by decide) (fun _ _ h9 => h9.elim) ?_
  rintro _ _ ⟨rfl, h9⟩; rw [h9]; clear h9
  show pm_V _ _ _ _ 14 _ [.int (lr_b (lr_be x (nI (lr_n g 2))))] _
  refine pm_ifb_ne (off := 14) 28 (by decide +kernel) (by decide) (fun (h9 : (lr_be x (nI (lr_n g 2))) = true) => absurd (hb.symm.trans h9) (by decide)) (fun (h14 : (lr_be x (nI (lr_n g 2))) = false) => ?_)
  exact pm_throwW (is := 365) (tx := "there is no such house") pm_exIO rfl (by decide +kernel) rfl (by decide +kernel) (by decide +kernel) (by decide +kernel) (by decide +kernel) (by decide +kernel) (by decide) (by decide) (⟨rfl, rfl⟩)
set_option maxHeartbeats 4000000 in
set_option maxRecDepth 100000 in
theorem c_X9_requirePerson {g : Nat → Int32} (x : Int32) (μ : pm_Mm) (hR : lr_Rel μ.1 1 g) (hG : lr_G g) (hb : lr_be x (nI (lr_n g 35)) = true) : pm_CT mi_X9_requirePerson [.ref 0, .int x] μ (fun v μ2 => v = none ∧ μ2 = μ) pm_NX := by
  refine pm_CT_of (lo := [some (.ref 0), some (.int x)]) (by decide +kernel) rfl rfl (by intro v hv; simp at hv; rcases hv with rfl | rfl <;> rfl) (Nat.le_of_ble_eq_true rfl) rfl ?_
  refine pm_bl [(.iload_n 1, 1, 1, 0, 0), (.aload_n 0, 1, 0, 0, 0), (.getfield 10, 3, 9, 0, 0), (.getfield 90, 3, 5, 1, 0), (.getfield 94, 3, 6, 0, 0)] (pc1 := 11) (lo1 := [some (.ref 0), some (.int x)]) (st1 := [.int (μ.1 5 0), .int x]) (μ1 := μ) (vc := True) rfl (by decide +kernel) rfl trivial ?_
  rw [lr_rNp hR, lr_gp hG]
  refine pm_callS2 mi_X9_isBelow (ix := 130) (kc2 := 0) (ks2 := 0) (As := [.int x, .int (nI (lr_n g 35))]) (rest := []) (c_X9_isBelow x (nI (lr_n g 35)) μ) cal_X9_isBelow lk9_130 (by decide +kernel) rfl (by decide +kernel) rfl rfl (Nat.le_of_ble_eq_true rfl) (by decide) (by decide) (fun _ _ h9 => h9.elim) ?_
  rintro _ _ ⟨rfl, h9⟩; rw [h9]; clear h9
  show pm_V _ _ _ _ 14 _ [.int (lr_b (lr_be x (nI (lr_n g 35))))] _
  refine pm_ifb_ne (off := 14) 28 (by decide +kernel) (by decide) (fun (h14 : (lr_be x (nI (lr_n g 35))) = true) => ?_) (fun (h9 : (lr_be x (nI (lr_n g 35))) = false) => absurd (hb.symm.trans h9) (by decide))
  exact pm_vret rfl (by decide) (by decide) (by decide +kernel) (⟨rfl, rfl⟩)
set_option maxHeartbeats 4000000 in
set_option maxRecDepth 100000 in
theorem c_X9_requirePerson_no {g : Nat → Int32} (x : Int32) (μ : pm_Mm) (hR : lr_Rel μ.1 1 g) (hG : lr_G g) (hb : lr_be x (nI (lr_n g 35)) = false) : pm_CT mi_X9_requirePerson [.ref 0, .int x] μ (fun _ _ => False) (fun E μ2 => E = "java/lang/IndexOutOfBoundsException" ∧ μ2 = μ) := by
  refine pm_CT_of (lo := [some (.ref 0), some (.int x)]) (by decide +kernel) rfl rfl (by intro v hv; simp at hv; rcases hv with rfl | rfl <;> rfl) (Nat.le_of_ble_eq_true rfl) rfl ?_
  refine pm_bl [(.iload_n 1, 1, 1, 0, 0), (.aload_n 0, 1, 0, 0, 0), (.getfield 10, 3, 9, 0, 0), (.getfield 90, 3, 5, 1, 0), (.getfield 94, 3, 6, 0, 0)] (pc1 := 11) (lo1 := [some (.ref 0), some (.int x)]) (st1 := [.int (μ.1 5 0), .int x]) (μ1 := μ) (vc := True) rfl (by decide +kernel) rfl trivial ?_
  rw [lr_rNp hR, lr_gp hG]
  refine pm_callS2 mi_X9_isBelow (ix := 130) (kc2 := 0) (ks2 := 0) (As := [.int x, .int (nI (lr_n g 35))]) (rest := []) (c_X9_isBelow x (nI (lr_n g 35)) μ) cal_X9_isBelow lk9_130 (by decide +kernel) rfl (by decide +kernel) rfl rfl (Nat.le_of_ble_eq_true rfl) (by decide) (by decide) (fun _ _ h9 => h9.elim) ?_
  rintro _ _ ⟨rfl, h9⟩; rw [h9]; clear h9
  show pm_V _ _ _ _ 14 _ [.int (lr_b (lr_be x (nI (lr_n g 35))))] _
  refine pm_ifb_ne (off := 14) 28 (by decide +kernel) (by decide) (fun (h9 : (lr_be x (nI (lr_n g 35))) = true) => absurd (hb.symm.trans h9) (by decide)) (fun (h14 : (lr_be x (nI (lr_n g 35))) = false) => ?_)
  exact pm_throwW (is := 367) (tx := "there is no such person") pm_exIO rfl (by decide +kernel) rfl (by decide +kernel) (by decide +kernel) (by decide +kernel) (by decide +kernel) (by decide +kernel) (by decide) (by decide) (⟨rfl, rfl⟩)
set_option maxHeartbeats 4000000 in
set_option maxRecDepth 100000 in
theorem c_X9_requireLetter {g : Nat → Int32} (x : Int32) (μ : pm_Mm) (hR : lr_Rel μ.1 1 g) (hG : lr_G g) (hb : lr_be x (nI (lr_n g 289)) = true) : pm_CT mi_X9_requireLetter [.ref 0, .int x] μ (fun v μ2 => v = none ∧ μ2 = μ) pm_NX := by
  refine pm_CT_of (lo := [some (.ref 0), some (.int x)]) (by decide +kernel) rfl rfl (by intro v hv; simp at hv; rcases hv with rfl | rfl <;> rfl) (Nat.le_of_ble_eq_true rfl) rfl ?_
  refine pm_bl [(.iload_n 1, 1, 1, 0, 0), (.aload_n 0, 1, 0, 0, 0), (.getfield 10, 3, 9, 0, 0), (.getfield 235, 3, 5, 5, 0), (.getfield 239, 3, 4, 0, 0)] (pc1 := 11) (lo1 := [some (.ref 0), some (.int x)]) (st1 := [.int (μ.1 26 0), .int x]) (μ1 := μ) (vc := True) rfl (by decide +kernel) rfl trivial ?_
  rw [lr_rNl hR, lr_gl hG]
  refine pm_callS2 mi_X9_isBelow (ix := 130) (kc2 := 0) (ks2 := 0) (As := [.int x, .int (nI (lr_n g 289))]) (rest := []) (c_X9_isBelow x (nI (lr_n g 289)) μ) cal_X9_isBelow lk9_130 (by decide +kernel) rfl (by decide +kernel) rfl rfl (Nat.le_of_ble_eq_true rfl) (by decide) (by decide) (fun _ _ h9 => h9.elim) ?_
  rintro _ _ ⟨rfl, h9⟩; rw [h9]; clear h9
  show pm_V _ _ _ _ 14 _ [.int (lr_b (lr_be x (nI (lr_n g 289))))] _
  refine pm_ifb_ne (off := 14) 28 (by decide +kernel) (by decide) (fun (h14 : (lr_be x (nI (lr_n g 289))) = true) => ?_) (fun (h9 : (lr_be x (nI (lr_n g 289))) = false) => absurd (hb.symm.trans h9) (by decide))
  exact pm_vret rfl (by decide) (by decide) (by decide +kernel) (⟨rfl, rfl⟩)
set_option maxHeartbeats 4000000 in
set_option maxRecDepth 100000 in
theorem c_X9_requireLetter_no {g : Nat → Int32} (x : Int32) (μ : pm_Mm) (hR : lr_Rel μ.1 1 g) (hG : lr_G g) (hb : lr_be x (nI (lr_n g 289)) = false) : pm_CT mi_X9_requireLetter [.ref 0, .int x] μ (fun _ _ => False) (fun E μ2 => E = "java/lang/IndexOutOfBoundsException" ∧ μ2 = μ) := by
  refine pm_CT_of (lo := [some (.ref 0), some (.int x)]) (by decide +kernel) rfl rfl (by intro v hv; simp at hv; rcases hv with rfl | rfl <;> rfl) (Nat.le_of_ble_eq_true rfl) rfl ?_
  refine pm_bl [(.iload_n 1, 1, 1, 0, 0), (.aload_n 0, 1, 0, 0, 0), (.getfield 10, 3, 9, 0, 0), (.getfield 235, 3, 5, 5, 0), (.getfield 239, 3, 4, 0, 0)] (pc1 := 11) (lo1 := [some (.ref 0), some (.int x)]) (st1 := [.int (μ.1 26 0), .int x]) (μ1 := μ) (vc := True) rfl (by decide +kernel) rfl trivial ?_
  rw [lr_rNl hR, lr_gl hG]
  refine pm_callS2 mi_X9_isBelow (ix := 130) (kc2 := 0) (ks2 := 0) (As := [.int x, .int (nI (lr_n g 289))]) (rest := []) (c_X9_isBelow x (nI (lr_n g 289)) μ) cal_X9_isBelow lk9_130 (by decide +kernel) rfl (by decide +kernel) rfl rfl (Nat.le_of_ble_eq_true rfl) (by decide) (by decide) (fun _ _ h9 => h9.elim) ?_
  rintro _ _ ⟨rfl, h9⟩; rw [h9]; clear h9
  show pm_V _ _ _ _ 14 _ [.int (lr_b (lr_be x (nI (lr_n g 289))))] _
  refine pm_ifb_ne (off := 14) 28 (by decide +kernel) (by decide) (fun (h9 : (lr_be x (nI (lr_n g 289))) = true) => absurd (hb.symm.trans h9) (by decide)) (fun (h14 : (lr_be x (nI (lr_n g 289))) = false) => ?_)
  exact pm_throwW (is := 369) (tx := "there is no such letter") pm_exIO rfl (by decide +kernel) rfl (by decide +kernel) (by decide +kernel) (by decide +kernel) (by decide +kernel) (by decide +kernel) (by decide) (by decide) (⟨rfl, rfl⟩)
set_option maxHeartbeats 4000000 in
set_option maxRecDepth 100000 in
theorem c_X9_requireDay (x : Int32) (μ : pm_Mm) (hb : lr_in x 0 365 = true) : pm_CT mi_X9_requireDay [.int x] μ (fun v μ2 => v = none ∧ μ2 = μ) pm_NX := by
  refine pm_CT_of (lo := [some (.int x)]) (by decide +kernel) rfl rfl (by intro v hv; simp at hv; rcases hv with rfl; rfl) (Nat.le_of_ble_eq_true rfl) rfl ?_
  refine pm_bl [(.iload_n 0, 1, 0, 0, 0), (.iconst 0, 1, 0, 0, 0), (.sipush 365, 3, 0, 0, 365)] (pc1 := 5) (lo1 := [some (.int x)]) (st1 := [.int 365, .int 0, .int x]) (μ1 := μ) (vc := True) rfl (by decide +kernel) rfl trivial ?_
  refine pm_callS2 mi_X9_isBetween (ix := 102) (kc2 := 0) (ks2 := 0) (As := [.int x, .int 0, .int 365]) (rest := []) (c_X9_isBetween x 0 365 μ) cal_X9_isBetween lk9_102 (by decide +kernel) rfl (by decide +kernel) rfl rfl (Nat.le_of_ble_eq_true rfl) (by decide) (by decide) (fun _ _ h9 => h9.elim) ?_
  rintro _ _ ⟨rfl, h9⟩; rw [h9]; clear h9
  show pm_V _ _ _ _ 8 _ [.int (lr_b (lr_in x 0 365))] _
  refine pm_ifb_ne (off := 14) 22 (by decide +kernel) (by decide) (fun (h8 : (lr_in x 0 365) = true) => ?_) (fun (h9 : (lr_in x 0 365) = false) => absurd (hb.symm.trans h9) (by decide))
  exact pm_vret rfl (by decide) (by decide) (by decide +kernel) (⟨rfl, rfl⟩)
set_option maxHeartbeats 4000000 in
set_option maxRecDepth 100000 in
theorem c_X9_requireDay_no (x : Int32) (μ : pm_Mm) (hb : lr_in x 0 365 = false) : pm_CT mi_X9_requireDay [.int x] μ (fun _ _ => False) (fun E μ2 => E = "java/lang/IllegalArgumentException" ∧ μ2 = μ) := by
  refine pm_CT_of (lo := [some (.int x)]) (by decide +kernel) rfl rfl (by intro v hv; simp at hv; rcases hv with rfl; rfl) (Nat.le_of_ble_eq_true rfl) rfl ?_
  refine pm_bl [(.iload_n 0, 1, 0, 0, 0), (.iconst 0, 1, 0, 0, 0), (.sipush 365, 3, 0, 0, 365)] (pc1 := 5) (lo1 := [some (.int x)]) (st1 := [.int 365, .int 0, .int x]) (μ1 := μ) (vc := True) rfl (by decide +kernel) rfl trivial ?_
  refine pm_callS2 mi_X9_isBetween (ix := 102) (kc2 := 0) (ks2 := 0) (As := [.int x, .int 0, .int 365]) (rest := []) (c_X9_isBetween x 0 365 μ) cal_X9_isBetween lk9_102 (by decide +kernel) rfl (by decide +kernel) rfl rfl (Nat.le_of_ble_eq_true rfl) (by decide) (by decide) (fun _ _ h9 => h9.elim) ?_
  rintro _ _ ⟨rfl, h9⟩; rw [h9]; clear h9
  show pm_V _ _ _ _ 8 _ [.int (lr_b (lr_in x 0 365))] _
  refine pm_ifb_ne (off := 14) 22 (by decide +kernel) (by decide) (fun (h9 : (lr_in x 0 365) = true) => absurd (hb.symm.trans h9) (by decide)) (fun (h8 : (lr_in x 0 365) = false) => ?_)
  exact pm_throwW (is := 371) (tx := "there is no such day") pm_exIA rfl (by decide +kernel) rfl (by decide +kernel) (by decide +kernel) (by decide +kernel) (by decide +kernel) (by decide +kernel) (by decide) (by decide) (⟨rfl, rfl⟩)
set_option maxHeartbeats 4000000 in
set_option maxRecDepth 100000 in
theorem c_X9_requireDays (x y : Int32) (μ : pm_Mm) (hb : lr_dys x y = true) : pm_CT mi_X9_requireDays [.int x, .int y] μ (fun v μ2 => v = none ∧ μ2 = μ) pm_NX := by
  refine pm_CT_of (lo := [some (.int x), some (.int y)]) (by decide +kernel) rfl rfl (by intro v hv; simp at hv; rcases hv with rfl | rfl <;> rfl) (Nat.le_of_ble_eq_true rfl) rfl ?_
  have h1 : ¬ x < 0 := fun h => by simp [lr_dys, lr_in, h] at hb
  have h2 : ¬ y < x := fun h => by simp [lr_dys, lr_in, h] at hb
  have h3 : ¬ 365 < y := fun h => by simp [lr_dys, h] at hb
  refine pm_bl [(.iload_n 0, 1, 0, 0, 0)] (pc1 := 1) (lo1 := [some (.int x), some (.int y)]) (st1 := [.int x]) (μ1 := μ) (vc := True) rfl (by decide +kernel) rfl trivial ?_
  refine pm_if_lt (off := 15) 16 (by decide +kernel) (by decide) (fun (h9 : x < 0) => absurd h9 h1) (fun (h1 : ¬ (x < 0)) => ?_)
  refine pm_bl [(.iload_n 0, 1, 0, 0, 0), (.iload_n 1, 1, 1, 0, 0)] (pc1 := 6) (lo1 := [some (.int x), some (.int y)]) (st1 := [.int y, .int x]) (μ1 := μ) (vc := True) rfl (by decide +kernel) rfl trivial ?_
  refine pm_icmp_gt (off := 10) 16 (by decide +kernel) (by decide) (fun (h9 : y < x) => absurd h9 h2) (fun (h6 : ¬ (y < x)) => ?_)
  refine pm_bl [(.iload_n 1, 1, 1, 0, 0), (.sipush 365, 3, 0, 0, 365)] (pc1 := 13) (lo1 := [some (.int x), some (.int y)]) (st1 := [.int 365, .int y]) (μ1 := μ) (vc := True) rfl (by decide +kernel) rfl trivial ?_
  refine pm_icmp_le (off := 14) 27 (by decide +kernel) (by decide) (fun (h13 : y ≤ 365) => ?_) (fun (h9 : ¬ (y ≤ 365)) => absurd (Int32.not_lt.mp h3) h9)
  exact pm_vret rfl (by decide) (by decide) (by decide +kernel) (⟨rfl, rfl⟩)
set_option maxHeartbeats 4000000 in
set_option maxRecDepth 100000 in
theorem c_X9_requireDays_no (x y : Int32) (μ : pm_Mm) (hb : lr_dys x y = false) : pm_CT mi_X9_requireDays [.int x, .int y] μ (fun _ _ => False) (fun E μ2 => E = "java/lang/IllegalArgumentException" ∧ μ2 = μ) := by
  refine pm_CT_of (lo := [some (.int x), some (.int y)]) (by decide +kernel) rfl rfl (by intro v hv; simp at hv; rcases hv with rfl | rfl <;> rfl) (Nat.le_of_ble_eq_true rfl) rfl ?_
  refine pm_bl [(.iload_n 0, 1, 0, 0, 0)] (pc1 := 1) (lo1 := [some (.int x), some (.int y)]) (st1 := [.int x]) (μ1 := μ) (vc := True) rfl (by decide +kernel) rfl trivial ?_
  refine pm_if_lt (off := 15) 16 (by decide +kernel) (by decide) (fun (h1 : x < 0) => ?_) (fun (h1 : ¬ (x < 0)) => ?_)
  · exact pm_throwW (is := 373) (tx := "the days are not in ascending order from 0 to 365") pm_exIA rfl (by decide +kernel) rfl (by decide +kernel) (by decide +kernel) (by decide +kernel) (by decide +kernel) (by decide +kernel) (by decide) (by decide) (⟨rfl, rfl⟩)
  · refine pm_bl [(.iload_n 0, 1, 0, 0, 0), (.iload_n 1, 1, 1, 0, 0)] (pc1 := 6) (lo1 := [some (.int x), some (.int y)]) (st1 := [.int y, .int x]) (μ1 := μ) (vc := True) rfl (by decide +kernel) rfl trivial ?_
    refine pm_icmp_gt (off := 10) 16 (by decide +kernel) (by decide) (fun (h6 : y < x) => ?_) (fun (h6 : ¬ (y < x)) => ?_)
    · exact pm_throwW (is := 373) (tx := "the days are not in ascending order from 0 to 365") pm_exIA rfl (by decide +kernel) rfl (by decide +kernel) (by decide +kernel) (by decide +kernel) (by decide +kernel) (by decide +kernel) (by decide) (by decide) (⟨rfl, rfl⟩)
    · refine pm_bl [(.iload_n 1, 1, 1, 0, 0), (.sipush 365, 3, 0, 0, 365)] (pc1 := 13) (lo1 := [some (.int x), some (.int y)]) (st1 := [.int 365, .int y]) (μ1 := μ) (vc := True) rfl (by decide +kernel) rfl trivial ?_
      refine pm_icmp_le (off := 14) 27 (by decide +kernel) (by decide) (fun (h9 : y ≤ 365) => absurd hb (by simp [lr_dys, lr_in, *])) (fun (h13 : ¬ (y ≤ 365)) => ?_)
      exact pm_throwW (is := 373) (tx := "the days are not in ascending order from 0 to 365") pm_exIA rfl (by decide +kernel) rfl (by decide +kernel) (by decide +kernel) (by decide +kernel) (by decide +kernel) (by decide +kernel) (by decide) (by decide) (⟨rfl, rfl⟩)
set_option maxHeartbeats 4000000 in
set_option maxRecDepth 100000 in
theorem c_X9_refuse (x : Int32) (μ : pm_Mm) : pm_CT mi_X9_refuse [.ref 0, .int x] μ (fun _ _ => False) (fun E μ2 => E = "java/lang/UnsupportedOperationException" ∧ μ2 = pm_set μ 0 6 x) := by
  refine pm_CT_of (lo := [some (.ref 0), some (.int x)]) (by decide +kernel) rfl rfl (by intro v hv; simp at hv; rcases hv with rfl | rfl <;> rfl) (Nat.le_of_ble_eq_true rfl) rfl ?_
  refine pm_bl [(.aload_n 0, 1, 0, 0, 0), (.iload_n 1, 1, 1, 0, 0), (.putfield 41, 3, 9, 6, 0)] (pc1 := 5) (lo1 := [some (.ref 0), some (.int x)]) (st1 := []) (μ1 := pm_set μ 0 6 x) (vc := True) rfl (by decide +kernel) rfl trivial ?_
  exact pm_throwW (is := 377) (tx := "refused, see refusal") pm_exUO rfl (by decide +kernel) rfl (by decide +kernel) (by decide +kernel) (by decide +kernel) (by decide +kernel) (by decide +kernel) (by decide) (by decide) (⟨rfl, rfl⟩)
/-- an office that did not move stands for the same row -/
theorem lr_Rel.fr {f f2 : Nat → Nat → Int32} {b : Nat} {g : Nat → Int32} (hR : lr_Rel f b g) (hf : ∀ i, b ≤ i → i < b + 38 → f2 i = f i) : lr_Rel f2 b g := by
  unfold lr_Rel lr_Rh lr_Rp lr_Rw lr_Rr lr_Ra lr_Rl at hR ⊢
  rw [hf b (by omega) (by omega), hf (b + 1) (by omega) (by omega), hf (b + 2) (by omega) (by omega), hf (b + 3) (by omega) (by omega), hf (b + 4) (by omega) (by omega), hf (b + 5) (by omega) (by omega), hf (b + 6) (by omega) (by omega), hf (b + 7) (by omega) (by omega), hf (b + 8) (by omega) (by omega), hf (b + 9) (by omega) (by omega), hf (b + 10) (by omega) (by omega), hf (b + 11) (by omega) (by omega), hf (b + 12) (by omega) (by omega), hf (b + 13) (by omega) (by omega), hf (b + 14) (by omega) (by omega), hf (b + 15) (by omega) (by omega), hf (b + 16) (by omega) (by omega), hf (b + 17) (by omega) (by omega), hf (b + 18) (by omega) (by omega), hf (b + 19) (by omega) (by omega), hf (b + 20) (by omega) (by omega), hf (b + 21) (by omega) (by omega), hf (b + 22) (by omega) (by omega), hf (b + 23) (by omega) (by omega), hf (b + 24) (by omega) (by omega), hf (b + 25) (by omega) (by omega), hf (b + 26) (by omega) (by omega), hf (b + 27) (by omega) (by omega), hf (b + 28) (by omega) (by omega), hf (b + 29) (by omega) (by omega), hf (b + 30) (by omega) (by omega), hf (b + 31) (by omega) (by omega), hf (b + 32) (by omega) (by omega), hf (b + 33) (by omega) (by omega), hf (b + 34) (by omega) (by omega), hf (b + 35) (by omega) (by omega), hf (b + 36) (by omega) (by omega), hf (b + 37) (by omega) (by omega)]
  exact hR
/-- what a change of the class may move: the office and the history -/
def lr_fc (μ μ2 : pm_Mm) : Prop := (∀ i, (i = 0 ∨ (39 < i ∧ i < 96 ∧ i ≠ 45)) → μ2.1 i = μ.1 i) ∧ μ2.2 = μ.2
theorem lr_fc.rf {μ : pm_Mm} : lr_fc μ μ := ⟨fun _ _ => rfl, rfl⟩
theorem lr_fc.tr {μ a b : pm_Mm} (h1 : lr_fc μ a) (h2 : lr_fr a b) : lr_fc μ b := ⟨fun i hi => (h2.1 i (by omega)).trans (h1.1 i hi), h2.2.trans h1.2⟩
theorem lr_fc.st {μ a : pm_Mm} {r k : Nat} {v : Int32} (h : lr_fc μ a) (h1 : 1 ≤ r) (h2 : r ≤ 39) : lr_fc μ (pm_set a r k v) := ⟨fun i hi => by rw [pm_set_off (by omega)]; exact h.1 i hi, h.2⟩
/-- the class's history: c rows F, the oldest first, the next place n -/
def lr_Hs (f : Nat → Nat → Int32) (c n : Nat) (F : Nat → Nat → Int32) : Prop := c ≤ 8 ∧ n < 8 ∧ f 45 0 = nI c ∧ f 45 1 = nI n ∧ ∀ k, k < c → lr_Rel f (96 + 39 * ((n + 8 - c + k) % 8)) (F k)
/-- a row more; of eight the oldest goes -/
def lr_psh (c : Nat) (F : Nat → Nat → Int32) (g : Nat → Int32) : Nat → Nat → Int32 := fun k => if c = 8 then (if k < 7 then F (k + 1) else g) else (if k = c then g else F k)
theorem lr_Hs.fr {f f2 : Nat → Nat → Int32} {c n : Nat} {F : Nat → Nat → Int32} (h : lr_Hs f c n F) (hf : ∀ i, (i = 45 ∨ 95 < i) → f2 i = f i) : lr_Hs f2 c n F := by
  obtain ⟨h1, h2, h3, h4, h5⟩ := h
  exact ⟨h1, h2, by rw [hf 45 (by omega)]; exact h3, by rw [hf 45 (by omega)]; exact h4, fun k hk => (h5 k hk).fr (fun i h6 _ => hf i (by omega))⟩
theorem lr_keep_ok {μ μ1 : pm_Mm} {c n : Nat} {F : Nat → Nat → Int32} {g : Nat → Int32} (hR : lr_Rel μ.1 1 g) (hH : lr_Hs μ.1 c n F) (h2 : μ1.2 = μ.2) (hf : ∀ i, i ≠ 45 → (i < 96 + 39 * n ∨ 96 + 39 * n + 38 < i) → μ1.1 i = μ.1 i) (hRn : lr_Rel μ1.1 (96 + 39 * n) g) (hc : μ1.1 45 0 = nI (min (c + 1) 8)) (hn : μ1.1 45 1 = nI ((n + 1) % 8)) : lr_fc μ μ1 ∧ lr_Rel μ1.1 1 g ∧ lr_Hs μ1.1 (min (c + 1) 8) ((n + 1) % 8) (lr_psh c F g) := by
  obtain ⟨h1, h8, h3, h4, h5⟩ := hH
  refine ⟨⟨fun i hi => hf i (by omega) (by omega), h2⟩, hR.fr (fun i h6 h7 => hf i (by omega) (by omega)), by omega, by omega, hc, hn, fun k hk => ?_⟩
  unfold lr_psh
  by_cases e8 : c = 8
  · rw [if_pos e8]
    by_cases e7 : k < 7
    · rw [if_pos e7]
      have q := h5 (k + 1) (by omega)
      rw [show ((n + 1) % 8 + 8 - min (c + 1) 8 + k) % 8 = (n + 8 - c + (k + 1)) % 8 from by omega]
      exact q.fr (fun i h6 h7 => hf i (by omega) (by omega))
    · rw [if_neg e7, show ((n + 1) % 8 + 8 - min (c + 1) 8 + k) % 8 = n from by omega]
      exact hRn
  · rw [if_neg e8]
    by_cases ek : k = c
    · rw [if_pos ek, show ((n + 1) % 8 + 8 - min (c + 1) 8 + k) % 8 = n from by omega]
      exact hRn
    · rw [if_neg ek]
      have q := h5 k (by omega)
      rw [show ((n + 1) % 8 + 8 - min (c + 1) 8 + k) % 8 = (n + 8 - c + k) % 8 from by omega]
      exact q.fr (fun i h6 h7 => hf i (by omega) (by omega))
theorem lr_back_ok {μ μ1 : pm_Mm} {c n : Nat} {F : Nat → Nat → Int32} (hH : lr_Hs μ.1 (c + 1) n F) (h2 : μ1.2 = μ.2) (hf : ∀ i, i ≠ 45 → (i < 1 ∨ 39 < i) → μ1.1 i = μ.1 i) (hc : μ1.1 45 0 = nI c) (hn : μ1.1 45 1 = nI ((n + 7) % 8)) : lr_fc μ μ1 ∧ lr_Hs μ1.1 c ((n + 7) % 8) F := by
  obtain ⟨h1, h8, h3, h4, h5⟩ := hH
  refine ⟨⟨fun i hi => hf i (by omega) (by omega), h2⟩, by omega, by omega, hc, hn, fun k hk => ?_⟩
  have q := h5 k (by omega)
  rw [show ((n + 7) % 8 + 8 - c + k) % 8 = (n + 8 - (c + 1) + k) % 8 from by omega]
  exact q.fr (fun i h6 h7 => hf i (by omega) (by omega))
