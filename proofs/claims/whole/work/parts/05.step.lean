/-! ONE STEP of the flat machine, by numbers; and that the machine does it. -/
def pm_fl : List (Nat × Nat × Nat × Nat × Nat) := [(0, 9, 0, 0, 0), (0, 15, 0, 1, 2), (0, 19, 0, 2, 2), (0, 22, 0, 3, 2), (1, 9, 1, 0, 0), (1, 15, 1, 1, 0), (1, 18, 1, 2, 2), (1, 22, 1, 3, 2), (1, 25, 1, 4, 2), (1, 28, 1, 5, 2), (1, 32, 1, 6, 0), (2, 9, 2, 0, 0), (2, 15, 2, 1, 0), (2, 20, 2, 2, 2), (3, 9, 3, 0, 0), (3, 15, 3, 1, 2), (3, 19, 3, 2, 2), (4, 9, 4, 0, 0), (4, 15, 4, 1, 0), (4, 18, 4, 2, 2), (4, 22, 4, 3, 2), (4, 25, 4, 4, 2), (4, 28, 4, 5, 2), (4, 31, 4, 6, 2), (4, 34, 4, 7, 2), (4, 37, 4, 8, 2), (4, 40, 4, 9, 2), (4, 43, 4, 10, 2), (4, 46, 4, 11, 2), (4, 49, 4, 12, 2), (4, 52, 4, 13, 2), (5, 12, 5, 0, 2), (5, 21, 5, 1, 2), (5, 28, 5, 2, 2), (5, 35, 5, 3, 2), (5, 42, 5, 4, 2), (5, 49, 5, 5, 2), (5, 53, 5, 6, 0), (5, 57, 5, 7, 2), (5, 80, 3, 0, 0), (5, 87, 3, 1, 2), (5, 90, 3, 2, 2), (5, 108, 6, 0, 0), (5, 113, 6, 1, 2), (5, 128, 4, 2, 2), (5, 131, 6, 2, 2), (5, 134, 4, 3, 2), (5, 137, 6, 3, 2), (5, 140, 4, 4, 2), (5, 146, 4, 5, 2), (5, 149, 4, 9, 2), (5, 158, 4, 0, 0), (5, 159, 4, 6, 2), (6, 9, 6, 0, 0), (6, 15, 6, 1, 2), (6, 19, 6, 2, 2), (6, 22, 6, 3, 2), (6, 25, 6, 4, 2), (7, 9, 7, 0, 0), (7, 15, 7, 1, 2), (7, 19, 7, 2, 2), (7, 22, 7, 3, 2), (7, 25, 7, 4, 2), (7, 28, 7, 5, 2), (8, 9, 8, 0, 0), (8, 15, 8, 1, 2), (8, 19, 8, 2, 2), (8, 22, 8, 3, 2), (8, 25, 8, 4, 2), (8, 28, 8, 5, 2), (9, 10, 9, 0, 2), (9, 19, 9, 1, 2), (9, 23, 9, 2, 2), (9, 26, 9, 3, 1), (9, 33, 9, 4, 2), (9, 37, 9, 5, 0), (9, 41, 9, 6, 0), (9, 58, 5, 0, 2), (9, 70, 3, 0, 0), (9, 90, 5, 1, 2), (9, 94, 6, 0, 0), (9, 112, 5, 2, 2), (9, 116, 8, 0, 0), (9, 158, 5, 3, 2), (9, 162, 7, 0, 0), (9, 197, 6, 2, 2), (9, 212, 6, 3, 2), (9, 215, 5, 4, 2), (9, 224, 0, 0, 0), (9, 235, 5, 5, 2), (9, 239, 4, 0, 0), (9, 242, 5, 6, 0), (9, 248, 1, 0, 0), (9, 269, 1, 1, 0), (9, 271, 1, 2, 2), (9, 274, 1, 3, 2), (9, 277, 1, 4, 2), (9, 304, 4, 1, 0), (9, 309, 4, 13, 2), (9, 312, 4, 6, 2), (9, 351, 2, 0, 0), (10, 7, 10, 0, 2), (10, 13, 10, 1, 2), (10, 16, 10, 2, 2), (10, 19, 10, 4, 2), (10, 22, 10, 8, 2), (10, 25, 10, 10, 2), (10, 28, 10, 13, 0), (10, 32, 10, 14, 2), (10, 35, 10, 7, 0), (10, 38, 10, 6, 0), (10, 49, 10, 5, 0), (10, 56, 10, 3, 1), (10, 167, 10, 9, 0), (10, 179, 10, 11, 0), (10, 182, 10, 12, 0), (10, 188, 10, 15, 0)]
def pm_CF (ci : Nat) : Prop := ∃ (C : String) (T : u_T) (N : Nat) (ty : Nat → FieldType), pm_cl[ci]? = some (C, T, N) ∧ (∀ w ∈ u_ws C T N, w ∈ pm_good) ∧ (∀ k, k < N → parseFieldDescriptor (T k).2.2.1 = some (ty k)) ∧ (∀ a, a < N → ∀ b, b < N → a ≠ b → (T a).2.1 ≠ (T b).2.1)
def pm_FF (q : Nat × Nat × Nat × Nat × Nat) : Prop := ∃ (C : String) (T : u_T) (N : Nat), pm_cl[q.2.2.1]? = some (C, T, N) ∧ q.2.2.2.1 < N ∧ Cond.fieldLink (pm_R q.1) q.2.1 C (T q.2.2.2.1).2.1 (T q.2.2.2.1).2.2.1 ∈ pm_good ∧ (T q.2.2.2.1).1 = C ∧ (q.2.2.2.2 = 0 → (T q.2.2.2.1).2.2.2 = false ∧ (T q.2.2.2.1).2.2.1 = "I") ∧ (q.2.2.2.2 = 1 → (T q.2.2.2.1).2.2.2 = false ∧ (T q.2.2.2.1).2.2.1 = "Z")
theorem pm_cf0 : pm_CF 0 := ⟨RX0, TX0, 4, tyX0, rfl, fun w hw => pm_good_in (List.mem_append_right _ (by rw [show u_ws RX0 TX0 4 = [161, 163, 165, 167].filterMap (fun i => tables_1[i]?) by decide +kernel] at hw; obtain ⟨i, -, hi⟩ := List.mem_filterMap.mp hw; exact List.mem_of_getElem? hi)) (List.all_eq_true.mp (show (u_ws RX0 TX0 4).all goodWord = true by decide +kernel) w hw), tyX0_ok, nmX0⟩
theorem pm_cf1 : pm_CF 1 := ⟨RX1, TX1, 7, tyX1, rfl, fun w hw => pm_good_in (List.mem_append_right _ (by rw [show u_ws RX1 TX1 7 = [300, 302, 304, 306, 308, 310, 312].filterMap (fun i => tables_1[i]?) by decide +kernel] at hw; obtain ⟨i, -, hi⟩ := List.mem_filterMap.mp hw; exact List.mem_of_getElem? hi)) (List.all_eq_true.mp (show (u_ws RX1 TX1 7).all goodWord = true by decide +kernel) w hw), tyX1_ok, nmX1⟩
theorem pm_cf2 : pm_CF 2 := ⟨RX2, TX2, 3, tyX2, rfl, fun w hw => pm_good_in (List.mem_append_right _ (by rw [show u_ws RX2 TX2 3 = [275, 277, 279].filterMap (fun i => tables_1[i]?) by decide +kernel] at hw; obtain ⟨i, -, hi⟩ := List.mem_filterMap.mp hw; exact List.mem_of_getElem? hi)) (List.all_eq_true.mp (show (u_ws RX2 TX2 3).all goodWord = true by decide +kernel) w hw), tyX2_ok, nmX2⟩
theorem pm_cf3 : pm_CF 3 := ⟨RX3, TX3, 3, tyX3, rfl, fun w hw => pm_good_in (List.mem_append_right _ (by rw [show u_ws RX3 TX3 3 = [61, 63, 65].filterMap (fun i => tables_1[i]?) by decide +kernel] at hw; obtain ⟨i, -, hi⟩ := List.mem_filterMap.mp hw; exact List.mem_of_getElem? hi)) (List.all_eq_true.mp (show (u_ws RX3 TX3 3).all goodWord = true by decide +kernel) w hw), tyX3_ok, nmX3⟩
theorem pm_cf4 : pm_CF 4 := ⟨RX4, TX4, 14, tyX4, rfl, fun w hw => pm_good_in (List.mem_append_right _ (by rw [show u_ws RX4 TX4 14 = [201, 203, 205, 207, 209, 211, 213, 215, 217, 219, 221, 223, 225, 227].filterMap (fun i => tables_1[i]?) by decide +kernel] at hw; obtain ⟨i, -, hi⟩ := List.mem_filterMap.mp hw; exact List.mem_of_getElem? hi)) (List.all_eq_true.mp (show (u_ws RX4 TX4 14).all goodWord = true by decide +kernel) w hw), tyX4_ok, nmX4⟩
theorem pm_cf5 : pm_CF 5 := ⟨RX5, TX5, 8, tyX5, rfl, fun w hw => pm_good_in (List.mem_append_right _ (by rw [show u_ws RX5 TX5 8 = [245, 247, 249, 251, 253, 255, 257, 259].filterMap (fun i => tables_1[i]?) by decide +kernel] at hw; obtain ⟨i, -, hi⟩ := List.mem_filterMap.mp hw; exact List.mem_of_getElem? hi)) (List.all_eq_true.mp (show (u_ws RX5 TX5 8).all goodWord = true by decide +kernel) w hw), tyX5_ok, nmX5⟩
theorem pm_cf6 : pm_CF 6 := ⟨RX6, TX6, 5, tyX6, rfl, fun w hw => pm_good_in (List.mem_append_right _ (by rw [show u_ws RX6 TX6 5 = [87, 89, 91, 93, 95].filterMap (fun i => tables_1[i]?) by decide +kernel] at hw; obtain ⟨i, -, hi⟩ := List.mem_filterMap.mp hw; exact List.mem_of_getElem? hi)) (List.all_eq_true.mp (show (u_ws RX6 TX6 5).all goodWord = true by decide +kernel) w hw), tyX6_ok, nmX6⟩
theorem pm_cf7 : pm_CF 7 := ⟨RX7, TX7, 6, tyX7, rfl, fun w hw => pm_good_in (List.mem_append_right _ (by rw [show u_ws RX7 TX7 6 = [137, 139, 141, 143, 145, 147].filterMap (fun i => tables_1[i]?) by decide +kernel] at hw; obtain ⟨i, -, hi⟩ := List.mem_filterMap.mp hw; exact List.mem_of_getElem? hi)) (List.all_eq_true.mp (show (u_ws RX7 TX7 6).all goodWord = true by decide +kernel) w hw), tyX7_ok, nmX7⟩
theorem pm_cf8 : pm_CF 8 := ⟨RX8, TX8, 6, tyX8, rfl, fun w hw => pm_good_in (List.mem_append_right _ (by rw [show u_ws RX8 TX8 6 = [111, 113, 115, 117, 119, 121].filterMap (fun i => tables_1[i]?) by decide +kernel] at hw; obtain ⟨i, -, hi⟩ := List.mem_filterMap.mp hw; exact List.mem_of_getElem? hi)) (List.all_eq_true.mp (show (u_ws RX8 TX8 6).all goodWord = true by decide +kernel) w hw), tyX8_ok, nmX8⟩
theorem pm_cf9 : pm_CF 9 := ⟨RX9, TX9, 7, tyX9, rfl, fun w hw => pm_good_in (List.mem_append_right _ (by rw [show u_ws RX9 TX9 7 = [323, 325, 327, 329, 331, 333, 335].filterMap (fun i => tables_1[i]?) by decide +kernel] at hw; obtain ⟨i, -, hi⟩ := List.mem_filterMap.mp hw; exact List.mem_of_getElem? hi)) (List.all_eq_true.mp (show (u_ws RX9 TX9 7).all goodWord = true by decide +kernel) w hw), tyX9_ok, nmX9⟩
theorem pm_cf10 : pm_CF 10 := ⟨RX10, TX10, 16, tyX10, rfl, fun w hw => pm_good_in (List.mem_append_right _ (by rw [show u_ws RX10 TX10 16 = [1309, 1311, 1313, 1315, 1317, 1319, 1321, 1323, 1325, 1327, 1329, 1331, 1333, 1335, 1337, 1339].filterMap (fun i => tables_1[i]?) by decide +kernel] at hw; obtain ⟨i, -, hi⟩ := List.mem_filterMap.mp hw; exact List.mem_of_getElem? hi)) (List.all_eq_true.mp (show (u_ws RX10 TX10 16).all goodWord = true by decide +kernel) w hw), tyX10_ok, nmX10⟩
theorem pm_cf : ∀ ci, ci < 11 → pm_CF ci := by
  intro ci h
  match ci, h with
  | 0, _ => exact pm_cf0
  | 1, _ => exact pm_cf1
  | 2, _ => exact pm_cf2
  | 3, _ => exact pm_cf3
  | 4, _ => exact pm_cf4
  | 5, _ => exact pm_cf5
  | 6, _ => exact pm_cf6
  | 7, _ => exact pm_cf7
  | 8, _ => exact pm_cf8
  | 9, _ => exact pm_cf9
  | 10, _ => exact pm_cf10
  | n + 11, h => exact absurd h (by omega)
theorem pm_f0_9 : pm_FF (0, 9, 0, 0, 0) := ⟨RX0, TX0, 4, rfl, by decide, pm_tab (i := 156) (by decide +kernel) rfl, rfl, fun _ => ⟨rfl, rfl⟩, fun h => absurd h (by decide)⟩
theorem pm_f0_15 : pm_FF (0, 15, 0, 1, 2) := ⟨RX0, TX0, 4, rfl, by decide, pm_tab (i := 158) (by decide +kernel) rfl, rfl, fun h => absurd h (by decide), fun h => absurd h (by decide)⟩
theorem pm_f0_19 : pm_FF (0, 19, 0, 2, 2) := ⟨RX0, TX0, 4, rfl, by decide, pm_tab (i := 159) (by decide +kernel) rfl, rfl, fun h => absurd h (by decide), fun h => absurd h (by decide)⟩
theorem pm_f0_22 : pm_FF (0, 22, 0, 3, 2) := ⟨RX0, TX0, 4, rfl, by decide, pm_tab (i := 160) (by decide +kernel) rfl, rfl, fun h => absurd h (by decide), fun h => absurd h (by decide)⟩
theorem pm_f1_9 : pm_FF (1, 9, 1, 0, 0) := ⟨RX1, TX1, 7, rfl, by decide, pm_tab (i := 288) (by decide +kernel) rfl, rfl, fun _ => ⟨rfl, rfl⟩, fun h => absurd h (by decide)⟩
theorem pm_f1_15 : pm_FF (1, 15, 1, 1, 0) := ⟨RX1, TX1, 7, rfl, by decide, pm_tab (i := 290) (by decide +kernel) rfl, rfl, fun _ => ⟨rfl, rfl⟩, fun h => absurd h (by decide)⟩
theorem pm_f1_18 : pm_FF (1, 18, 1, 2, 2) := ⟨RX1, TX1, 7, rfl, by decide, pm_tab (i := 292) (by decide +kernel) rfl, rfl, fun h => absurd h (by decide), fun h => absurd h (by decide)⟩
theorem pm_f1_22 : pm_FF (1, 22, 1, 3, 2) := ⟨RX1, TX1, 7, rfl, by decide, pm_tab (i := 294) (by decide +kernel) rfl, rfl, fun h => absurd h (by decide), fun h => absurd h (by decide)⟩
theorem pm_f1_25 : pm_FF (1, 25, 1, 4, 2) := ⟨RX1, TX1, 7, rfl, by decide, pm_tab (i := 296) (by decide +kernel) rfl, rfl, fun h => absurd h (by decide), fun h => absurd h (by decide)⟩
theorem pm_f1_28 : pm_FF (1, 28, 1, 5, 2) := ⟨RX1, TX1, 7, rfl, by decide, pm_tab (i := 298) (by decide +kernel) rfl, rfl, fun h => absurd h (by decide), fun h => absurd h (by decide)⟩
theorem pm_f1_32 : pm_FF (1, 32, 1, 6, 0) := ⟨RX1, TX1, 7, rfl, by decide, pm_tab (i := 299) (by decide +kernel) rfl, rfl, fun _ => ⟨rfl, rfl⟩, fun h => absurd h (by decide)⟩
theorem pm_f2_9 : pm_FF (2, 9, 2, 0, 0) := ⟨RX2, TX2, 3, rfl, by decide, pm_tab (i := 271) (by decide +kernel) rfl, rfl, fun _ => ⟨rfl, rfl⟩, fun h => absurd h (by decide)⟩
theorem pm_f2_15 : pm_FF (2, 15, 2, 1, 0) := ⟨RX2, TX2, 3, rfl, by decide, pm_tab (i := 273) (by decide +kernel) rfl, rfl, fun _ => ⟨rfl, rfl⟩, fun h => absurd h (by decide)⟩
theorem pm_f2_20 : pm_FF (2, 20, 2, 2, 2) := ⟨RX2, TX2, 3, rfl, by decide, pm_tab (i := 274) (by decide +kernel) rfl, rfl, fun h => absurd h (by decide), fun h => absurd h (by decide)⟩
theorem pm_f3_9 : pm_FF (3, 9, 3, 0, 0) := ⟨RX3, TX3, 3, rfl, by decide, pm_tab (i := 54) (by decide +kernel) rfl, rfl, fun _ => ⟨rfl, rfl⟩, fun h => absurd h (by decide)⟩
theorem pm_f3_15 : pm_FF (3, 15, 3, 1, 2) := ⟨RX3, TX3, 3, rfl, by decide, pm_tab (i := 57) (by decide +kernel) rfl, rfl, fun h => absurd h (by decide), fun h => absurd h (by decide)⟩
theorem pm_f3_19 : pm_FF (3, 19, 3, 2, 2) := ⟨RX3, TX3, 3, rfl, by decide, pm_tab (i := 59) (by decide +kernel) rfl, rfl, fun h => absurd h (by decide), fun h => absurd h (by decide)⟩
theorem pm_f4_9 : pm_FF (4, 9, 4, 0, 0) := ⟨RX4, TX4, 14, rfl, by decide, pm_tab (i := 176) (by decide +kernel) rfl, rfl, fun _ => ⟨rfl, rfl⟩, fun h => absurd h (by decide)⟩
theorem pm_f4_15 : pm_FF (4, 15, 4, 1, 0) := ⟨RX4, TX4, 14, rfl, by decide, pm_tab (i := 179) (by decide +kernel) rfl, rfl, fun _ => ⟨rfl, rfl⟩, fun h => absurd h (by decide)⟩
theorem pm_f4_18 : pm_FF (4, 18, 4, 2, 2) := ⟨RX4, TX4, 14, rfl, by decide, pm_tab (i := 181) (by decide +kernel) rfl, rfl, fun h => absurd h (by decide), fun h => absurd h (by decide)⟩
theorem pm_f4_22 : pm_FF (4, 22, 4, 3, 2) := ⟨RX4, TX4, 14, rfl, by decide, pm_tab (i := 183) (by decide +kernel) rfl, rfl, fun h => absurd h (by decide), fun h => absurd h (by decide)⟩
theorem pm_f4_25 : pm_FF (4, 25, 4, 4, 2) := ⟨RX4, TX4, 14, rfl, by decide, pm_tab (i := 185) (by decide +kernel) rfl, rfl, fun h => absurd h (by decide), fun h => absurd h (by decide)⟩
theorem pm_f4_28 : pm_FF (4, 28, 4, 5, 2) := ⟨RX4, TX4, 14, rfl, by decide, pm_tab (i := 187) (by decide +kernel) rfl, rfl, fun h => absurd h (by decide), fun h => absurd h (by decide)⟩
theorem pm_f4_31 : pm_FF (4, 31, 4, 6, 2) := ⟨RX4, TX4, 14, rfl, by decide, pm_tab (i := 189) (by decide +kernel) rfl, rfl, fun h => absurd h (by decide), fun h => absurd h (by decide)⟩
theorem pm_f4_34 : pm_FF (4, 34, 4, 7, 2) := ⟨RX4, TX4, 14, rfl, by decide, pm_tab (i := 192) (by decide +kernel) rfl, rfl, fun h => absurd h (by decide), fun h => absurd h (by decide)⟩
theorem pm_f4_37 : pm_FF (4, 37, 4, 8, 2) := ⟨RX4, TX4, 14, rfl, by decide, pm_tab (i := 193) (by decide +kernel) rfl, rfl, fun h => absurd h (by decide), fun h => absurd h (by decide)⟩
theorem pm_f4_40 : pm_FF (4, 40, 4, 9, 2) := ⟨RX4, TX4, 14, rfl, by decide, pm_tab (i := 194) (by decide +kernel) rfl, rfl, fun h => absurd h (by decide), fun h => absurd h (by decide)⟩
theorem pm_f4_43 : pm_FF (4, 43, 4, 10, 2) := ⟨RX4, TX4, 14, rfl, by decide, pm_tab (i := 196) (by decide +kernel) rfl, rfl, fun h => absurd h (by decide), fun h => absurd h (by decide)⟩
theorem pm_f4_46 : pm_FF (4, 46, 4, 11, 2) := ⟨RX4, TX4, 14, rfl, by decide, pm_tab (i := 197) (by decide +kernel) rfl, rfl, fun h => absurd h (by decide), fun h => absurd h (by decide)⟩
theorem pm_f4_49 : pm_FF (4, 49, 4, 12, 2) := ⟨RX4, TX4, 14, rfl, by decide, pm_tab (i := 198) (by decide +kernel) rfl, rfl, fun h => absurd h (by decide), fun h => absurd h (by decide)⟩
theorem pm_f4_52 : pm_FF (4, 52, 4, 13, 2) := ⟨RX4, TX4, 14, rfl, by decide, pm_tab (i := 199) (by decide +kernel) rfl, rfl, fun h => absurd h (by decide), fun h => absurd h (by decide)⟩
theorem pm_f5_12 : pm_FF (5, 12, 5, 0, 2) := ⟨RX5, TX5, 8, rfl, by decide, pm_tab (i := 230) (by decide +kernel) rfl, rfl, fun h => absurd h (by decide), fun h => absurd h (by decide)⟩
theorem pm_f5_21 : pm_FF (5, 21, 5, 1, 2) := ⟨RX5, TX5, 8, rfl, by decide, pm_tab (i := 232) (by decide +kernel) rfl, rfl, fun h => absurd h (by decide), fun h => absurd h (by decide)⟩
theorem pm_f5_28 : pm_FF (5, 28, 5, 2, 2) := ⟨RX5, TX5, 8, rfl, by decide, pm_tab (i := 234) (by decide +kernel) rfl, rfl, fun h => absurd h (by decide), fun h => absurd h (by decide)⟩
theorem pm_f5_35 : pm_FF (5, 35, 5, 3, 2) := ⟨RX5, TX5, 8, rfl, by decide, pm_tab (i := 236) (by decide +kernel) rfl, rfl, fun h => absurd h (by decide), fun h => absurd h (by decide)⟩
theorem pm_f5_42 : pm_FF (5, 42, 5, 4, 2) := ⟨RX5, TX5, 8, rfl, by decide, pm_tab (i := 238) (by decide +kernel) rfl, rfl, fun h => absurd h (by decide), fun h => absurd h (by decide)⟩
theorem pm_f5_49 : pm_FF (5, 49, 5, 5, 2) := ⟨RX5, TX5, 8, rfl, by decide, pm_tab (i := 240) (by decide +kernel) rfl, rfl, fun h => absurd h (by decide), fun h => absurd h (by decide)⟩
theorem pm_f5_53 : pm_FF (5, 53, 5, 6, 0) := ⟨RX5, TX5, 8, rfl, by decide, pm_tab (i := 242) (by decide +kernel) rfl, rfl, fun _ => ⟨rfl, rfl⟩, fun h => absurd h (by decide)⟩
theorem pm_f5_57 : pm_FF (5, 57, 5, 7, 2) := ⟨RX5, TX5, 8, rfl, by decide, pm_tab (i := 244) (by decide +kernel) rfl, rfl, fun h => absurd h (by decide), fun h => absurd h (by decide)⟩
theorem pm_f5_80 : pm_FF (5, 80, 3, 0, 0) := ⟨RX3, TX3, 3, rfl, by decide, pm_tab (i := 56) (by decide +kernel) rfl, rfl, fun _ => ⟨rfl, rfl⟩, fun h => absurd h (by decide)⟩
theorem pm_f5_87 : pm_FF (5, 87, 3, 1, 2) := ⟨RX3, TX3, 3, rfl, by decide, pm_tab (i := 58) (by decide +kernel) rfl, rfl, fun h => absurd h (by decide), fun h => absurd h (by decide)⟩
theorem pm_f5_90 : pm_FF (5, 90, 3, 2, 2) := ⟨RX3, TX3, 3, rfl, by decide, pm_tab (i := 60) (by decide +kernel) rfl, rfl, fun h => absurd h (by decide), fun h => absurd h (by decide)⟩
theorem pm_f5_108 : pm_FF (5, 108, 6, 0, 0) := ⟨RX6, TX6, 5, rfl, by decide, pm_tab (i := 77) (by decide +kernel) rfl, rfl, fun _ => ⟨rfl, rfl⟩, fun h => absurd h (by decide)⟩
theorem pm_f5_113 : pm_FF (5, 113, 6, 1, 2) := ⟨RX6, TX6, 5, rfl, by decide, pm_tab (i := 79) (by decide +kernel) rfl, rfl, fun h => absurd h (by decide), fun h => absurd h (by decide)⟩
theorem pm_f5_128 : pm_FF (5, 128, 4, 2, 2) := ⟨RX4, TX4, 14, rfl, by decide, pm_tab (i := 182) (by decide +kernel) rfl, rfl, fun h => absurd h (by decide), fun h => absurd h (by decide)⟩
theorem pm_f5_131 : pm_FF (5, 131, 6, 2, 2) := ⟨RX6, TX6, 5, rfl, by decide, pm_tab (i := 81) (by decide +kernel) rfl, rfl, fun h => absurd h (by decide), fun h => absurd h (by decide)⟩
theorem pm_f5_134 : pm_FF (5, 134, 4, 3, 2) := ⟨RX4, TX4, 14, rfl, by decide, pm_tab (i := 184) (by decide +kernel) rfl, rfl, fun h => absurd h (by decide), fun h => absurd h (by decide)⟩
theorem pm_f5_137 : pm_FF (5, 137, 6, 3, 2) := ⟨RX6, TX6, 5, rfl, by decide, pm_tab (i := 84) (by decide +kernel) rfl, rfl, fun h => absurd h (by decide), fun h => absurd h (by decide)⟩
theorem pm_f5_140 : pm_FF (5, 140, 4, 4, 2) := ⟨RX4, TX4, 14, rfl, by decide, pm_tab (i := 186) (by decide +kernel) rfl, rfl, fun h => absurd h (by decide), fun h => absurd h (by decide)⟩
theorem pm_f5_146 : pm_FF (5, 146, 4, 5, 2) := ⟨RX4, TX4, 14, rfl, by decide, pm_tab (i := 188) (by decide +kernel) rfl, rfl, fun h => absurd h (by decide), fun h => absurd h (by decide)⟩
theorem pm_f5_149 : pm_FF (5, 149, 4, 9, 2) := ⟨RX4, TX4, 14, rfl, by decide, pm_tab (i := 195) (by decide +kernel) rfl, rfl, fun h => absurd h (by decide), fun h => absurd h (by decide)⟩
theorem pm_f5_158 : pm_FF (5, 158, 4, 0, 0) := ⟨RX4, TX4, 14, rfl, by decide, pm_tab (i := 177) (by decide +kernel) rfl, rfl, fun _ => ⟨rfl, rfl⟩, fun h => absurd h (by decide)⟩
theorem pm_f5_159 : pm_FF (5, 159, 4, 6, 2) := ⟨RX4, TX4, 14, rfl, by decide, pm_tab (i := 190) (by decide +kernel) rfl, rfl, fun h => absurd h (by decide), fun h => absurd h (by decide)⟩
theorem pm_f6_9 : pm_FF (6, 9, 6, 0, 0) := ⟨RX6, TX6, 5, rfl, by decide, pm_tab (i := 75) (by decide +kernel) rfl, rfl, fun _ => ⟨rfl, rfl⟩, fun h => absurd h (by decide)⟩
theorem pm_f6_15 : pm_FF (6, 15, 6, 1, 2) := ⟨RX6, TX6, 5, rfl, by decide, pm_tab (i := 78) (by decide +kernel) rfl, rfl, fun h => absurd h (by decide), fun h => absurd h (by decide)⟩
theorem pm_f6_19 : pm_FF (6, 19, 6, 2, 2) := ⟨RX6, TX6, 5, rfl, by decide, pm_tab (i := 80) (by decide +kernel) rfl, rfl, fun h => absurd h (by decide), fun h => absurd h (by decide)⟩
theorem pm_f6_22 : pm_FF (6, 22, 6, 3, 2) := ⟨RX6, TX6, 5, rfl, by decide, pm_tab (i := 83) (by decide +kernel) rfl, rfl, fun h => absurd h (by decide), fun h => absurd h (by decide)⟩
theorem pm_f6_25 : pm_FF (6, 25, 6, 4, 2) := ⟨RX6, TX6, 5, rfl, by decide, pm_tab (i := 86) (by decide +kernel) rfl, rfl, fun h => absurd h (by decide), fun h => absurd h (by decide)⟩
theorem pm_f7_9 : pm_FF (7, 9, 7, 0, 0) := ⟨RX7, TX7, 6, rfl, by decide, pm_tab (i := 130) (by decide +kernel) rfl, rfl, fun _ => ⟨rfl, rfl⟩, fun h => absurd h (by decide)⟩
theorem pm_f7_15 : pm_FF (7, 15, 7, 1, 2) := ⟨RX7, TX7, 6, rfl, by decide, pm_tab (i := 132) (by decide +kernel) rfl, rfl, fun h => absurd h (by decide), fun h => absurd h (by decide)⟩
theorem pm_f7_19 : pm_FF (7, 19, 7, 2, 2) := ⟨RX7, TX7, 6, rfl, by decide, pm_tab (i := 133) (by decide +kernel) rfl, rfl, fun h => absurd h (by decide), fun h => absurd h (by decide)⟩
theorem pm_f7_22 : pm_FF (7, 22, 7, 3, 2) := ⟨RX7, TX7, 6, rfl, by decide, pm_tab (i := 134) (by decide +kernel) rfl, rfl, fun h => absurd h (by decide), fun h => absurd h (by decide)⟩
theorem pm_f7_25 : pm_FF (7, 25, 7, 4, 2) := ⟨RX7, TX7, 6, rfl, by decide, pm_tab (i := 135) (by decide +kernel) rfl, rfl, fun h => absurd h (by decide), fun h => absurd h (by decide)⟩
theorem pm_f7_28 : pm_FF (7, 28, 7, 5, 2) := ⟨RX7, TX7, 6, rfl, by decide, pm_tab (i := 136) (by decide +kernel) rfl, rfl, fun h => absurd h (by decide), fun h => absurd h (by decide)⟩
theorem pm_f8_9 : pm_FF (8, 9, 8, 0, 0) := ⟨RX8, TX8, 6, rfl, by decide, pm_tab (i := 104) (by decide +kernel) rfl, rfl, fun _ => ⟨rfl, rfl⟩, fun h => absurd h (by decide)⟩
theorem pm_f8_15 : pm_FF (8, 15, 8, 1, 2) := ⟨RX8, TX8, 6, rfl, by decide, pm_tab (i := 106) (by decide +kernel) rfl, rfl, fun h => absurd h (by decide), fun h => absurd h (by decide)⟩
theorem pm_f8_19 : pm_FF (8, 19, 8, 2, 2) := ⟨RX8, TX8, 6, rfl, by decide, pm_tab (i := 107) (by decide +kernel) rfl, rfl, fun h => absurd h (by decide), fun h => absurd h (by decide)⟩
theorem pm_f8_22 : pm_FF (8, 22, 8, 3, 2) := ⟨RX8, TX8, 6, rfl, by decide, pm_tab (i := 108) (by decide +kernel) rfl, rfl, fun h => absurd h (by decide), fun h => absurd h (by decide)⟩
theorem pm_f8_25 : pm_FF (8, 25, 8, 4, 2) := ⟨RX8, TX8, 6, rfl, by decide, pm_tab (i := 109) (by decide +kernel) rfl, rfl, fun h => absurd h (by decide), fun h => absurd h (by decide)⟩
theorem pm_f8_28 : pm_FF (8, 28, 8, 5, 2) := ⟨RX8, TX8, 6, rfl, by decide, pm_tab (i := 110) (by decide +kernel) rfl, rfl, fun h => absurd h (by decide), fun h => absurd h (by decide)⟩
theorem pm_f9_10 : pm_FF (9, 10, 9, 0, 2) := ⟨RX9, TX9, 7, rfl, by decide, pm_tab (i := 316) (by decide +kernel) rfl, rfl, fun h => absurd h (by decide), fun h => absurd h (by decide)⟩
theorem pm_f9_19 : pm_FF (9, 19, 9, 1, 2) := ⟨RX9, TX9, 7, rfl, by decide, pm_tab (i := 317) (by decide +kernel) rfl, rfl, fun h => absurd h (by decide), fun h => absurd h (by decide)⟩
theorem pm_f9_23 : pm_FF (9, 23, 9, 2, 2) := ⟨RX9, TX9, 7, rfl, by decide, pm_tab (i := 318) (by decide +kernel) rfl, rfl, fun h => absurd h (by decide), fun h => absurd h (by decide)⟩
theorem pm_f9_26 : pm_FF (9, 26, 9, 3, 1) := ⟨RX9, TX9, 7, rfl, by decide, pm_tab (i := 319) (by decide +kernel) rfl, rfl, fun h => absurd h (by decide), fun _ => ⟨rfl, rfl⟩⟩
theorem pm_f9_33 : pm_FF (9, 33, 9, 4, 2) := ⟨RX9, TX9, 7, rfl, by decide, pm_tab (i := 320) (by decide +kernel) rfl, rfl, fun h => absurd h (by decide), fun h => absurd h (by decide)⟩
theorem pm_f9_37 : pm_FF (9, 37, 9, 5, 0) := ⟨RX9, TX9, 7, rfl, by decide, pm_tab (i := 321) (by decide +kernel) rfl, rfl, fun _ => ⟨rfl, rfl⟩, fun h => absurd h (by decide)⟩
theorem pm_f9_41 : pm_FF (9, 41, 9, 6, 0) := ⟨RX9, TX9, 7, rfl, by decide, pm_tab (i := 322) (by decide +kernel) rfl, rfl, fun _ => ⟨rfl, rfl⟩, fun h => absurd h (by decide)⟩
theorem pm_f9_58 : pm_FF (9, 58, 5, 0, 2) := ⟨RX5, TX5, 8, rfl, by decide, pm_tab (i := 231) (by decide +kernel) rfl, rfl, fun h => absurd h (by decide), fun h => absurd h (by decide)⟩
theorem pm_f9_70 : pm_FF (9, 70, 3, 0, 0) := ⟨RX3, TX3, 3, rfl, by decide, pm_tab (i := 55) (by decide +kernel) rfl, rfl, fun _ => ⟨rfl, rfl⟩, fun h => absurd h (by decide)⟩
theorem pm_f9_90 : pm_FF (9, 90, 5, 1, 2) := ⟨RX5, TX5, 8, rfl, by decide, pm_tab (i := 233) (by decide +kernel) rfl, rfl, fun h => absurd h (by decide), fun h => absurd h (by decide)⟩
theorem pm_f9_94 : pm_FF (9, 94, 6, 0, 0) := ⟨RX6, TX6, 5, rfl, by decide, pm_tab (i := 76) (by decide +kernel) rfl, rfl, fun _ => ⟨rfl, rfl⟩, fun h => absurd h (by decide)⟩
theorem pm_f9_112 : pm_FF (9, 112, 5, 2, 2) := ⟨RX5, TX5, 8, rfl, by decide, pm_tab (i := 235) (by decide +kernel) rfl, rfl, fun h => absurd h (by decide), fun h => absurd h (by decide)⟩
theorem pm_f9_116 : pm_FF (9, 116, 8, 0, 0) := ⟨RX8, TX8, 6, rfl, by decide, pm_tab (i := 105) (by decide +kernel) rfl, rfl, fun _ => ⟨rfl, rfl⟩, fun h => absurd h (by decide)⟩
theorem pm_f9_158 : pm_FF (9, 158, 5, 3, 2) := ⟨RX5, TX5, 8, rfl, by decide, pm_tab (i := 237) (by decide +kernel) rfl, rfl, fun h => absurd h (by decide), fun h => absurd h (by decide)⟩
theorem pm_f9_162 : pm_FF (9, 162, 7, 0, 0) := ⟨RX7, TX7, 6, rfl, by decide, pm_tab (i := 131) (by decide +kernel) rfl, rfl, fun _ => ⟨rfl, rfl⟩, fun h => absurd h (by decide)⟩
theorem pm_f9_197 : pm_FF (9, 197, 6, 2, 2) := ⟨RX6, TX6, 5, rfl, by decide, pm_tab (i := 82) (by decide +kernel) rfl, rfl, fun h => absurd h (by decide), fun h => absurd h (by decide)⟩
theorem pm_f9_212 : pm_FF (9, 212, 6, 3, 2) := ⟨RX6, TX6, 5, rfl, by decide, pm_tab (i := 85) (by decide +kernel) rfl, rfl, fun h => absurd h (by decide), fun h => absurd h (by decide)⟩
theorem pm_f9_215 : pm_FF (9, 215, 5, 4, 2) := ⟨RX5, TX5, 8, rfl, by decide, pm_tab (i := 239) (by decide +kernel) rfl, rfl, fun h => absurd h (by decide), fun h => absurd h (by decide)⟩
theorem pm_f9_224 : pm_FF (9, 224, 0, 0, 0) := ⟨RX0, TX0, 4, rfl, by decide, pm_tab (i := 157) (by decide +kernel) rfl, rfl, fun _ => ⟨rfl, rfl⟩, fun h => absurd h (by decide)⟩
theorem pm_f9_235 : pm_FF (9, 235, 5, 5, 2) := ⟨RX5, TX5, 8, rfl, by decide, pm_tab (i := 241) (by decide +kernel) rfl, rfl, fun h => absurd h (by decide), fun h => absurd h (by decide)⟩
theorem pm_f9_239 : pm_FF (9, 239, 4, 0, 0) := ⟨RX4, TX4, 14, rfl, by decide, pm_tab (i := 178) (by decide +kernel) rfl, rfl, fun _ => ⟨rfl, rfl⟩, fun h => absurd h (by decide)⟩
theorem pm_f9_242 : pm_FF (9, 242, 5, 6, 0) := ⟨RX5, TX5, 8, rfl, by decide, pm_tab (i := 243) (by decide +kernel) rfl, rfl, fun _ => ⟨rfl, rfl⟩, fun h => absurd h (by decide)⟩
theorem pm_f9_248 : pm_FF (9, 248, 1, 0, 0) := ⟨RX1, TX1, 7, rfl, by decide, pm_tab (i := 289) (by decide +kernel) rfl, rfl, fun _ => ⟨rfl, rfl⟩, fun h => absurd h (by decide)⟩
theorem pm_f9_269 : pm_FF (9, 269, 1, 1, 0) := ⟨RX1, TX1, 7, rfl, by decide, pm_tab (i := 291) (by decide +kernel) rfl, rfl, fun _ => ⟨rfl, rfl⟩, fun h => absurd h (by decide)⟩
theorem pm_f9_271 : pm_FF (9, 271, 1, 2, 2) := ⟨RX1, TX1, 7, rfl, by decide, pm_tab (i := 293) (by decide +kernel) rfl, rfl, fun h => absurd h (by decide), fun h => absurd h (by decide)⟩
theorem pm_f9_274 : pm_FF (9, 274, 1, 3, 2) := ⟨RX1, TX1, 7, rfl, by decide, pm_tab (i := 295) (by decide +kernel) rfl, rfl, fun h => absurd h (by decide), fun h => absurd h (by decide)⟩
theorem pm_f9_277 : pm_FF (9, 277, 1, 4, 2) := ⟨RX1, TX1, 7, rfl, by decide, pm_tab (i := 297) (by decide +kernel) rfl, rfl, fun h => absurd h (by decide), fun h => absurd h (by decide)⟩
theorem pm_f9_304 : pm_FF (9, 304, 4, 1, 0) := ⟨RX4, TX4, 14, rfl, by decide, pm_tab (i := 180) (by decide +kernel) rfl, rfl, fun _ => ⟨rfl, rfl⟩, fun h => absurd h (by decide)⟩
theorem pm_f9_309 : pm_FF (9, 309, 4, 13, 2) := ⟨RX4, TX4, 14, rfl, by decide, pm_tab (i := 200) (by decide +kernel) rfl, rfl, fun h => absurd h (by decide), fun h => absurd h (by decide)⟩
theorem pm_f9_312 : pm_FF (9, 312, 4, 6, 2) := ⟨RX4, TX4, 14, rfl, by decide, pm_tab (i := 191) (by decide +kernel) rfl, rfl, fun h => absurd h (by decide), fun h => absurd h (by decide)⟩
theorem pm_f9_351 : pm_FF (9, 351, 2, 0, 0) := ⟨RX2, TX2, 3, rfl, by decide, pm_tab (i := 272) (by decide +kernel) rfl, rfl, fun _ => ⟨rfl, rfl⟩, fun h => absurd h (by decide)⟩
theorem pm_f10_7 : pm_FF (10, 7, 10, 0, 2) := ⟨RX10, TX10, 16, rfl, by decide, pm_tab (i := 1293) (by decide +kernel) rfl, rfl, fun h => absurd h (by decide), fun h => absurd h (by decide)⟩
theorem pm_f10_13 : pm_FF (10, 13, 10, 1, 2) := ⟨RX10, TX10, 16, rfl, by decide, pm_tab (i := 1294) (by decide +kernel) rfl, rfl, fun h => absurd h (by decide), fun h => absurd h (by decide)⟩
theorem pm_f10_16 : pm_FF (10, 16, 10, 2, 2) := ⟨RX10, TX10, 16, rfl, by decide, pm_tab (i := 1295) (by decide +kernel) rfl, rfl, fun h => absurd h (by decide), fun h => absurd h (by decide)⟩
theorem pm_f10_19 : pm_FF (10, 19, 10, 4, 2) := ⟨RX10, TX10, 16, rfl, by decide, pm_tab (i := 1297) (by decide +kernel) rfl, rfl, fun h => absurd h (by decide), fun h => absurd h (by decide)⟩
theorem pm_f10_22 : pm_FF (10, 22, 10, 8, 2) := ⟨RX10, TX10, 16, rfl, by decide, pm_tab (i := 1301) (by decide +kernel) rfl, rfl, fun h => absurd h (by decide), fun h => absurd h (by decide)⟩
theorem pm_f10_25 : pm_FF (10, 25, 10, 10, 2) := ⟨RX10, TX10, 16, rfl, by decide, pm_tab (i := 1303) (by decide +kernel) rfl, rfl, fun h => absurd h (by decide), fun h => absurd h (by decide)⟩
theorem pm_f10_28 : pm_FF (10, 28, 10, 13, 0) := ⟨RX10, TX10, 16, rfl, by decide, pm_tab (i := 1306) (by decide +kernel) rfl, rfl, fun _ => ⟨rfl, rfl⟩, fun h => absurd h (by decide)⟩
theorem pm_f10_32 : pm_FF (10, 32, 10, 14, 2) := ⟨RX10, TX10, 16, rfl, by decide, pm_tab (i := 1307) (by decide +kernel) rfl, rfl, fun h => absurd h (by decide), fun h => absurd h (by decide)⟩
theorem pm_f10_35 : pm_FF (10, 35, 10, 7, 0) := ⟨RX10, TX10, 16, rfl, by decide, pm_tab (i := 1300) (by decide +kernel) rfl, rfl, fun _ => ⟨rfl, rfl⟩, fun h => absurd h (by decide)⟩
theorem pm_f10_38 : pm_FF (10, 38, 10, 6, 0) := ⟨RX10, TX10, 16, rfl, by decide, pm_tab (i := 1299) (by decide +kernel) rfl, rfl, fun _ => ⟨rfl, rfl⟩, fun h => absurd h (by decide)⟩
theorem pm_f10_49 : pm_FF (10, 49, 10, 5, 0) := ⟨RX10, TX10, 16, rfl, by decide, pm_tab (i := 1298) (by decide +kernel) rfl, rfl, fun _ => ⟨rfl, rfl⟩, fun h => absurd h (by decide)⟩
theorem pm_f10_56 : pm_FF (10, 56, 10, 3, 1) := ⟨RX10, TX10, 16, rfl, by decide, pm_tab (i := 1296) (by decide +kernel) rfl, rfl, fun h => absurd h (by decide), fun _ => ⟨rfl, rfl⟩⟩
theorem pm_f10_167 : pm_FF (10, 167, 10, 9, 0) := ⟨RX10, TX10, 16, rfl, by decide, pm_tab (i := 1302) (by decide +kernel) rfl, rfl, fun _ => ⟨rfl, rfl⟩, fun h => absurd h (by decide)⟩
theorem pm_f10_179 : pm_FF (10, 179, 10, 11, 0) := ⟨RX10, TX10, 16, rfl, by decide, pm_tab (i := 1304) (by decide +kernel) rfl, rfl, fun _ => ⟨rfl, rfl⟩, fun h => absurd h (by decide)⟩
theorem pm_f10_182 : pm_FF (10, 182, 10, 12, 0) := ⟨RX10, TX10, 16, rfl, by decide, pm_tab (i := 1305) (by decide +kernel) rfl, rfl, fun _ => ⟨rfl, rfl⟩, fun h => absurd h (by decide)⟩
theorem pm_f10_188 : pm_FF (10, 188, 10, 15, 0) := ⟨RX10, TX10, 16, rfl, by decide, pm_tab (i := 1308) (by decide +kernel) rfl, rfl, fun _ => ⟨rfl, rfl⟩, fun h => absurd h (by decide)⟩
theorem pm_flc0 : ∀ q ∈ ([(0, 9, 0, 0, 0), (0, 15, 0, 1, 2), (0, 19, 0, 2, 2), (0, 22, 0, 3, 2), (1, 9, 1, 0, 0), (1, 15, 1, 1, 0), (1, 18, 1, 2, 2), (1, 22, 1, 3, 2), (1, 25, 1, 4, 2), (1, 28, 1, 5, 2), (1, 32, 1, 6, 0), (2, 9, 2, 0, 0), (2, 15, 2, 1, 0), (2, 20, 2, 2, 2), (3, 9, 3, 0, 0), (3, 15, 3, 1, 2), (3, 19, 3, 2, 2), (4, 9, 4, 0, 0), (4, 15, 4, 1, 0), (4, 18, 4, 2, 2), (4, 22, 4, 3, 2), (4, 25, 4, 4, 2), (4, 28, 4, 5, 2), (4, 31, 4, 6, 2), (4, 34, 4, 7, 2)] : List (Nat × Nat × Nat × Nat × Nat)), pm_FF q := List.forall_mem_cons.mpr ⟨pm_f0_9, List.forall_mem_cons.mpr ⟨pm_f0_15, List.forall_mem_cons.mpr ⟨pm_f0_19, List.forall_mem_cons.mpr ⟨pm_f0_22, List.forall_mem_cons.mpr ⟨pm_f1_9, List.forall_mem_cons.mpr ⟨pm_f1_15, List.forall_mem_cons.mpr ⟨pm_f1_18, List.forall_mem_cons.mpr ⟨pm_f1_22, List.forall_mem_cons.mpr ⟨pm_f1_25, List.forall_mem_cons.mpr ⟨pm_f1_28, List.forall_mem_cons.mpr ⟨pm_f1_32, List.forall_mem_cons.mpr ⟨pm_f2_9, List.forall_mem_cons.mpr ⟨pm_f2_15, List.forall_mem_cons.mpr ⟨pm_f2_20, List.forall_mem_cons.mpr ⟨pm_f3_9, List.forall_mem_cons.mpr ⟨pm_f3_15, List.forall_mem_cons.mpr ⟨pm_f3_19, List.forall_mem_cons.mpr ⟨pm_f4_9, List.forall_mem_cons.mpr ⟨pm_f4_15, List.forall_mem_cons.mpr ⟨pm_f4_18, List.forall_mem_cons.mpr ⟨pm_f4_22, List.forall_mem_cons.mpr ⟨pm_f4_25, List.forall_mem_cons.mpr ⟨pm_f4_28, List.forall_mem_cons.mpr ⟨pm_f4_31, List.forall_mem_cons.mpr ⟨pm_f4_34, fun _ h => absurd h List.not_mem_nil⟩⟩⟩⟩⟩⟩⟩⟩⟩⟩⟩⟩⟩⟩⟩⟩⟩⟩⟩⟩⟩⟩⟩⟩⟩
theorem pm_flc1 : ∀ q ∈ ([(4, 37, 4, 8, 2), (4, 40, 4, 9, 2), (4, 43, 4, 10, 2), (4, 46, 4, 11, 2), (4, 49, 4, 12, 2), (4, 52, 4, 13, 2), (5, 12, 5, 0, 2), (5, 21, 5, 1, 2), (5, 28, 5, 2, 2), (5, 35, 5, 3, 2), (5, 42, 5, 4, 2), (5, 49, 5, 5, 2), (5, 53, 5, 6, 0), (5, 57, 5, 7, 2), (5, 80, 3, 0, 0), (5, 87, 3, 1, 2), (5, 90, 3, 2, 2), (5, 108, 6, 0, 0), (5, 113, 6, 1, 2), (5, 128, 4, 2, 2), (5, 131, 6, 2, 2), (5, 134, 4, 3, 2), (5, 137, 6, 3, 2), (5, 140, 4, 4, 2), (5, 146, 4, 5, 2)] : List (Nat × Nat × Nat × Nat × Nat)), pm_FF q := List.forall_mem_cons.mpr ⟨pm_f4_37, List.forall_mem_cons.mpr ⟨pm_f4_40, List.forall_mem_cons.mpr ⟨pm_f4_43, List.forall_mem_cons.mpr ⟨pm_f4_46, List.forall_mem_cons.mpr ⟨pm_f4_49, List.forall_mem_cons.mpr ⟨pm_f4_52, List.forall_mem_cons.mpr ⟨pm_f5_12, List.forall_mem_cons.mpr ⟨pm_f5_21, List.forall_mem_cons.mpr ⟨pm_f5_28, List.forall_mem_cons.mpr ⟨pm_f5_35, List.forall_mem_cons.mpr ⟨pm_f5_42, List.forall_mem_cons.mpr ⟨pm_f5_49, List.forall_mem_cons.mpr ⟨pm_f5_53, List.forall_mem_cons.mpr ⟨pm_f5_57, List.forall_mem_cons.mpr ⟨pm_f5_80, List.forall_mem_cons.mpr ⟨pm_f5_87, List.forall_mem_cons.mpr ⟨pm_f5_90, List.forall_mem_cons.mpr ⟨pm_f5_108, List.forall_mem_cons.mpr ⟨pm_f5_113, List.forall_mem_cons.mpr ⟨pm_f5_128, List.forall_mem_cons.mpr ⟨pm_f5_131, List.forall_mem_cons.mpr ⟨pm_f5_134, List.forall_mem_cons.mpr ⟨pm_f5_137, List.forall_mem_cons.mpr ⟨pm_f5_140, List.forall_mem_cons.mpr ⟨pm_f5_146, fun _ h => absurd h List.not_mem_nil⟩⟩⟩⟩⟩⟩⟩⟩⟩⟩⟩⟩⟩⟩⟩⟩⟩⟩⟩⟩⟩⟩⟩⟩⟩
theorem pm_flc2 : ∀ q ∈ ([(5, 149, 4, 9, 2), (5, 158, 4, 0, 0), (5, 159, 4, 6, 2), (6, 9, 6, 0, 0), (6, 15, 6, 1, 2), (6, 19, 6, 2, 2), (6, 22, 6, 3, 2), (6, 25, 6, 4, 2), (7, 9, 7, 0, 0), (7, 15, 7, 1, 2), (7, 19, 7, 2, 2), (7, 22, 7, 3, 2), (7, 25, 7, 4, 2), (7, 28, 7, 5, 2), (8, 9, 8, 0, 0), (8, 15, 8, 1, 2), (8, 19, 8, 2, 2), (8, 22, 8, 3, 2), (8, 25, 8, 4, 2), (8, 28, 8, 5, 2), (9, 10, 9, 0, 2), (9, 19, 9, 1, 2), (9, 23, 9, 2, 2), (9, 26, 9, 3, 1), (9, 33, 9, 4, 2)] : List (Nat × Nat × Nat × Nat × Nat)), pm_FF q := List.forall_mem_cons.mpr ⟨pm_f5_149, List.forall_mem_cons.mpr ⟨pm_f5_158, List.forall_mem_cons.mpr ⟨pm_f5_159, List.forall_mem_cons.mpr ⟨pm_f6_9, List.forall_mem_cons.mpr ⟨pm_f6_15, List.forall_mem_cons.mpr ⟨pm_f6_19, List.forall_mem_cons.mpr ⟨pm_f6_22, List.forall_mem_cons.mpr ⟨pm_f6_25, List.forall_mem_cons.mpr ⟨pm_f7_9, List.forall_mem_cons.mpr ⟨pm_f7_15, List.forall_mem_cons.mpr ⟨pm_f7_19, List.forall_mem_cons.mpr ⟨pm_f7_22, List.forall_mem_cons.mpr ⟨pm_f7_25, List.forall_mem_cons.mpr ⟨pm_f7_28, List.forall_mem_cons.mpr ⟨pm_f8_9, List.forall_mem_cons.mpr ⟨pm_f8_15, List.forall_mem_cons.mpr ⟨pm_f8_19, List.forall_mem_cons.mpr ⟨pm_f8_22, List.forall_mem_cons.mpr ⟨pm_f8_25, List.forall_mem_cons.mpr ⟨pm_f8_28, List.forall_mem_cons.mpr ⟨pm_f9_10, List.forall_mem_cons.mpr ⟨pm_f9_19, List.forall_mem_cons.mpr ⟨pm_f9_23, List.forall_mem_cons.mpr ⟨pm_f9_26, List.forall_mem_cons.mpr ⟨pm_f9_33, fun _ h => absurd h List.not_mem_nil⟩⟩⟩⟩⟩⟩⟩⟩⟩⟩⟩⟩⟩⟩⟩⟩⟩⟩⟩⟩⟩⟩⟩⟩⟩
theorem pm_flc3 : ∀ q ∈ ([(9, 37, 9, 5, 0), (9, 41, 9, 6, 0), (9, 58, 5, 0, 2), (9, 70, 3, 0, 0), (9, 90, 5, 1, 2), (9, 94, 6, 0, 0), (9, 112, 5, 2, 2), (9, 116, 8, 0, 0), (9, 158, 5, 3, 2), (9, 162, 7, 0, 0), (9, 197, 6, 2, 2), (9, 212, 6, 3, 2), (9, 215, 5, 4, 2), (9, 224, 0, 0, 0), (9, 235, 5, 5, 2), (9, 239, 4, 0, 0), (9, 242, 5, 6, 0), (9, 248, 1, 0, 0), (9, 269, 1, 1, 0), (9, 271, 1, 2, 2), (9, 274, 1, 3, 2), (9, 277, 1, 4, 2), (9, 304, 4, 1, 0), (9, 309, 4, 13, 2), (9, 312, 4, 6, 2)] : List (Nat × Nat × Nat × Nat × Nat)), pm_FF q := List.forall_mem_cons.mpr ⟨pm_f9_37, List.forall_mem_cons.mpr ⟨pm_f9_41, List.forall_mem_cons.mpr ⟨pm_f9_58, List.forall_mem_cons.mpr ⟨pm_f9_70, List.forall_mem_cons.mpr ⟨pm_f9_90, List.forall_mem_cons.mpr ⟨pm_f9_94, List.forall_mem_cons.mpr ⟨pm_f9_112, List.forall_mem_cons.mpr ⟨pm_f9_116, List.forall_mem_cons.mpr ⟨pm_f9_158, List.forall_mem_cons.mpr ⟨pm_f9_162, List.forall_mem_cons.mpr ⟨pm_f9_197, List.forall_mem_cons.mpr ⟨pm_f9_212, List.forall_mem_cons.mpr ⟨pm_f9_215, List.forall_mem_cons.mpr ⟨pm_f9_224, List.forall_mem_cons.mpr ⟨pm_f9_235, List.forall_mem_cons.mpr ⟨pm_f9_239, List.forall_mem_cons.mpr ⟨pm_f9_242, List.forall_mem_cons.mpr ⟨pm_f9_248, List.forall_mem_cons.mpr ⟨pm_f9_269, List.forall_mem_cons.mpr ⟨pm_f9_271, List.forall_mem_cons.mpr ⟨pm_f9_274, List.forall_mem_cons.mpr ⟨pm_f9_277, List.forall_mem_cons.mpr ⟨pm_f9_304, List.forall_mem_cons.mpr ⟨pm_f9_309, List.forall_mem_cons.mpr ⟨pm_f9_312, fun _ h => absurd h List.not_mem_nil⟩⟩⟩⟩⟩⟩⟩⟩⟩⟩⟩⟩⟩⟩⟩⟩⟩⟩⟩⟩⟩⟩⟩⟩⟩
theorem pm_flc4 : ∀ q ∈ ([(9, 351, 2, 0, 0), (10, 7, 10, 0, 2), (10, 13, 10, 1, 2), (10, 16, 10, 2, 2), (10, 19, 10, 4, 2), (10, 22, 10, 8, 2), (10, 25, 10, 10, 2), (10, 28, 10, 13, 0), (10, 32, 10, 14, 2), (10, 35, 10, 7, 0), (10, 38, 10, 6, 0), (10, 49, 10, 5, 0), (10, 56, 10, 3, 1), (10, 167, 10, 9, 0), (10, 179, 10, 11, 0), (10, 182, 10, 12, 0), (10, 188, 10, 15, 0)] : List (Nat × Nat × Nat × Nat × Nat)), pm_FF q := List.forall_mem_cons.mpr ⟨pm_f9_351, List.forall_mem_cons.mpr ⟨pm_f10_7, List.forall_mem_cons.mpr ⟨pm_f10_13, List.forall_mem_cons.mpr ⟨pm_f10_16, List.forall_mem_cons.mpr ⟨pm_f10_19, List.forall_mem_cons.mpr ⟨pm_f10_22, List.forall_mem_cons.mpr ⟨pm_f10_25, List.forall_mem_cons.mpr ⟨pm_f10_28, List.forall_mem_cons.mpr ⟨pm_f10_32, List.forall_mem_cons.mpr ⟨pm_f10_35, List.forall_mem_cons.mpr ⟨pm_f10_38, List.forall_mem_cons.mpr ⟨pm_f10_49, List.forall_mem_cons.mpr ⟨pm_f10_56, List.forall_mem_cons.mpr ⟨pm_f10_167, List.forall_mem_cons.mpr ⟨pm_f10_179, List.forall_mem_cons.mpr ⟨pm_f10_182, List.forall_mem_cons.mpr ⟨pm_f10_188, fun _ h => absurd h List.not_mem_nil⟩⟩⟩⟩⟩⟩⟩⟩⟩⟩⟩⟩⟩⟩⟩⟩⟩
theorem pm_fl_ok : ∀ q ∈ pm_fl, pm_FF q := by
  show ∀ q ∈ ([(0, 9, 0, 0, 0), (0, 15, 0, 1, 2), (0, 19, 0, 2, 2), (0, 22, 0, 3, 2), (1, 9, 1, 0, 0), (1, 15, 1, 1, 0), (1, 18, 1, 2, 2), (1, 22, 1, 3, 2), (1, 25, 1, 4, 2), (1, 28, 1, 5, 2), (1, 32, 1, 6, 0), (2, 9, 2, 0, 0), (2, 15, 2, 1, 0), (2, 20, 2, 2, 2), (3, 9, 3, 0, 0), (3, 15, 3, 1, 2), (3, 19, 3, 2, 2), (4, 9, 4, 0, 0), (4, 15, 4, 1, 0), (4, 18, 4, 2, 2), (4, 22, 4, 3, 2), (4, 25, 4, 4, 2), (4, 28, 4, 5, 2), (4, 31, 4, 6, 2), (4, 34, 4, 7, 2)] : List (Nat × Nat × Nat × Nat × Nat)) ++ (([(4, 37, 4, 8, 2), (4, 40, 4, 9, 2), (4, 43, 4, 10, 2), (4, 46, 4, 11, 2), (4, 49, 4, 12, 2), (4, 52, 4, 13, 2), (5, 12, 5, 0, 2), (5, 21, 5, 1, 2), (5, 28, 5, 2, 2), (5, 35, 5, 3, 2), (5, 42, 5, 4, 2), (5, 49, 5, 5, 2), (5, 53, 5, 6, 0), (5, 57, 5, 7, 2), (5, 80, 3, 0, 0), (5, 87, 3, 1, 2), (5, 90, 3, 2, 2), (5, 108, 6, 0, 0), (5, 113, 6, 1, 2), (5, 128, 4, 2, 2), (5, 131, 6, 2, 2), (5, 134, 4, 3, 2), (5, 137, 6, 3, 2), (5, 140, 4, 4, 2), (5, 146, 4, 5, 2)] : List (Nat × Nat × Nat × Nat × Nat)) ++ (([(5, 149, 4, 9, 2), (5, 158, 4, 0, 0), (5, 159, 4, 6, 2), (6, 9, 6, 0, 0), (6, 15, 6, 1, 2), (6, 19, 6, 2, 2), (6, 22, 6, 3, 2), (6, 25, 6, 4, 2), (7, 9, 7, 0, 0), (7, 15, 7, 1, 2), (7, 19, 7, 2, 2), (7, 22, 7, 3, 2), (7, 25, 7, 4, 2), (7, 28, 7, 5, 2), (8, 9, 8, 0, 0), (8, 15, 8, 1, 2), (8, 19, 8, 2, 2), (8, 22, 8, 3, 2), (8, 25, 8, 4, 2), (8, 28, 8, 5, 2), (9, 10, 9, 0, 2), (9, 19, 9, 1, 2), (9, 23, 9, 2, 2), (9, 26, 9, 3, 1), (9, 33, 9, 4, 2)] : List (Nat × Nat × Nat × Nat × Nat)) ++ (([(9, 37, 9, 5, 0), (9, 41, 9, 6, 0), (9, 58, 5, 0, 2), (9, 70, 3, 0, 0), (9, 90, 5, 1, 2), (9, 94, 6, 0, 0), (9, 112, 5, 2, 2), (9, 116, 8, 0, 0), (9, 158, 5, 3, 2), (9, 162, 7, 0, 0), (9, 197, 6, 2, 2), (9, 212, 6, 3, 2), (9, 215, 5, 4, 2), (9, 224, 0, 0, 0), (9, 235, 5, 5, 2), (9, 239, 4, 0, 0), (9, 242, 5, 6, 0), (9, 248, 1, 0, 0), (9, 269, 1, 1, 0), (9, 271, 1, 2, 2), (9, 274, 1, 3, 2), (9, 277, 1, 4, 2), (9, 304, 4, 1, 0), (9, 309, 4, 13, 2), (9, 312, 4, 6, 2)] : List (Nat × Nat × Nat × Nat × Nat)) ++ (([(9, 351, 2, 0, 0), (10, 7, 10, 0, 2), (10, 13, 10, 1, 2), (10, 16, 10, 2, 2), (10, 19, 10, 4, 2), (10, 22, 10, 8, 2), (10, 25, 10, 10, 2), (10, 28, 10, 13, 0), (10, 32, 10, 14, 2), (10, 35, 10, 7, 0), (10, 38, 10, 6, 0), (10, 49, 10, 5, 0), (10, 56, 10, 3, 1), (10, 167, 10, 9, 0), (10, 179, 10, 11, 0), (10, 182, 10, 12, 0), (10, 188, 10, 15, 0)] : List (Nat × Nat × Nat × Nat × Nat)))))), pm_FF q
  exact List.forall_mem_append.mpr ⟨pm_flc0, List.forall_mem_append.mpr ⟨pm_flc1, List.forall_mem_append.mpr ⟨pm_flc2, List.forall_mem_append.mpr ⟨pm_flc3, pm_flc4⟩⟩⟩⟩
abbrev pm_PI : Type := Instr × Nat × Nat × Nat × Int32
abbrev pm_St : Type := Nat × List (Option Value) × List Value × pm_Mm
/-- an instruction's numbers are its own -/
def pm_ok (own pc : Nat) (i : pm_PI) : Bool := match i with
  | (.aload_n k, n, a, _, _) => n == 1 && (k : Nat) == a
  | (.iload_n k, n, a, _, _) => n == 1 && (k : Nat) == a
  | (.istore_n k, n, a, _, _) => n == 1 && (k : Nat) == a
  | (.astore_n k, n, a, _, _) => n == 1 && (k : Nat) == a
  | (.aload k, n, a, _, _) => n == 2 && k == a
  | (.iload k, n, a, _, _) => n == 2 && k == a
  | (.istore k, n, a, _, _) => n == 2 && k == a
  | (.astore k, n, a, _, _) => n == 2 && k == a
  | (.iconst x, n, _, _, v) => n == 1 && Int32.ofInt x == v
  | (.bipush x, n, _, _, v) => n == 2 && (Int8.ofInt x).toInt32 == v
  | (.sipush x, n, _, _, v) => n == 3 && (Int16.ofInt x).toInt32 == v
  | (.iinc k x, n, a, _, v) => n == 3 && k == a && Int32.ofInt x == v
  | (.goto off, n, a, _, _) => n == 3 && (pc : Int) + off == (a : Int)
  | (.getfield x, n, a, b, _) => n == 3 && pm_fl.any (fun q => q.1 == own && q.2.1 == x && q.2.2.1 == a && q.2.2.2.1 == b)
  | (.putfield x, n, a, b, v) => n == 3 && ((v == 0 && pm_fl.contains (own, x, a, b, 0)) || (v == 1 && pm_fl.contains (own, x, a, b, 1)))
  | (.dup, n, _, _, _) => n == 1
  | (.dup2, n, _, _, _) => n == 1
  | (.pop, n, _, _, _) => n == 1
  | (.iadd, n, _, _, _) => n == 1
  | (.isub, n, _, _, _) => n == 1
  | (.imul, n, _, _, _) => n == 1
  | (.irem, n, _, _, _) => n == 1
  | (.idiv, n, _, _, _) => n == 1
  | (.iand, n, _, _, _) => n == 1
  | (.ior, n, _, _, _) => n == 1
  | (.ixor, n, _, _, _) => n == 1
  | (.ishl, n, _, _, _) => n == 1
  | (.ishr, n, _, _, _) => n == 1
  | (.i2l, n, _, _, _) => n == 1
  | (.i2c, n, _, _, _) => n == 1
  | (.iaload, n, _, _, _) => n == 1
  | (.iastore, n, _, _, _) => n == 1
  | (.caload, n, _, _, _) => n == 1
  | (.castore, n, _, _, _) => n == 1
  | (.laload, n, _, _, _) => n == 1
  | (.lastore, n, _, _, _) => n == 1
  | (.arraylength, n, _, _, _) => n == 1
  | _ => false
def pm_push (q : pm_St) (n : Nat) (v : Value) (st : List Value) : Option (pm_St × Option Prop) := some ((q.1 + n, q.2.1, v :: st, q.2.2.2), none)
def pm_sto (q : pm_St) (n a : Nat) (v : Value) (st : List Value) : Option (pm_St × Option Prop) := match pm_c1 q.2.1 a, Nat.blt a q.2.1.length with
  | true, true => some ((q.1 + n, q.2.1.set a (some v), st, q.2.2.2), none)
  | _, _ => none
/-- the field k of the object r of class ci: a number, or a reference -/
def pm_obf (r ci k : Nat) : Option (Option Nat) := match pm_sh[r]? with
  | some (.inr (c, fs)) => (match Nat.beq c ci with
    | true => fs[k]?
    | false => none)
  | _ => none
/-- the length of the array r of the kind t -/
def pm_arl (t r : Nat) : Option Nat := match pm_sh[r]? with
  | some (.inl (t', n)) => (match Nat.beq t' t with
    | true => some n
    | false => none)
  | _ => none
/-- one step: the next state, and what must hold for it -/
def pm_step (i : pm_PI) (q : pm_St) : Option (pm_St × Option Prop) := match i.1 with
  | .aload_n _ => match q.2.1[i.2.2.1]? with
    | some (some (.ref r)) => pm_push q i.2.1 (.ref r) q.2.2.1
    | _ => none
  | .aload _ => match q.2.1[i.2.2.1]? with
    | some (some (.ref r)) => pm_push q i.2.1 (.ref r) q.2.2.1
    | _ => none
  | .iload_n _ => match q.2.1[i.2.2.1]? with
    | some (some (.int r)) => pm_push q i.2.1 (.int r) q.2.2.1
    | _ => none
  | .iload _ => match q.2.1[i.2.2.1]? with
    | some (some (.int r)) => pm_push q i.2.1 (.int r) q.2.2.1
    | _ => none
  | .istore_n _ => match q.2.2.1 with
    | .int x :: st => pm_sto q i.2.1 i.2.2.1 (.int x) st
    | _ => none
  | .istore _ => match q.2.2.1 with
    | .int x :: st => pm_sto q i.2.1 i.2.2.1 (.int x) st
    | _ => none
  | .astore_n _ => match q.2.2.1 with
    | .ref x :: st => pm_sto q i.2.1 i.2.2.1 (.ref x) st
    | _ => none
  | .astore _ => match q.2.2.1 with
    | .ref x :: st => pm_sto q i.2.1 i.2.2.1 (.ref x) st
    | _ => none
  | .iinc _ _ => match q.2.1[i.2.2.1]? with
    | some (some (.int x)) => pm_sto q i.2.1 i.2.2.1 (.int (x + i.2.2.2.2)) q.2.2.1
    | _ => none
  | .iconst _ => pm_push q i.2.1 (.int i.2.2.2.2) q.2.2.1
  | .bipush _ => pm_push q i.2.1 (.int i.2.2.2.2) q.2.2.1
  | .sipush _ => pm_push q i.2.1 (.int i.2.2.2.2) q.2.2.1
  | .goto _ => some ((i.2.2.1, q.2.1, q.2.2.1, q.2.2.2), none)
  | .getfield _ => match q.2.2.1 with
    | .ref r :: st => (match pm_obf r i.2.2.1 i.2.2.2.1 with
      | some none => pm_push q i.2.1 (.int (q.2.2.2.1 r i.2.2.2.1)) st
      | some (some r') => pm_push q i.2.1 (.ref r') st
      | none => none)
    | _ => none
  | .putfield _ => match q.2.2.1 with
    | .int x :: .ref r :: st => (match pm_obf r i.2.2.1 i.2.2.2.1 with
      | some none => some ((q.1 + i.2.1, q.2.1, st, pm_set q.2.2.2 r i.2.2.2.1 x), if i.2.2.2.2 = 0 then none else some (x = 0 ∨ x = 1))
      | _ => none)
    | _ => none
  | .dup => match q.2.2.1 with
    | .int x :: st => pm_push q i.2.1 (.int x) (.int x :: st)
    | .ref x :: st => pm_push q i.2.1 (.ref x) (.ref x :: st)
    | _ => none
  | .dup2 => match q.2.2.1 with
    | .int x :: .ref y :: st => pm_push q i.2.1 (.int x) (.ref y :: .int x :: .ref y :: st)
    | _ => none
  | .pop => match q.2.2.1 with
    | .int _ :: st => some ((q.1 + i.2.1, q.2.1, st, q.2.2.2), none)
    | _ => none
  | .iadd => match q.2.2.1 with
    | .int y :: .int x :: st => pm_push q i.2.1 (.int (x + y)) st
    | _ => none
  | .isub => match q.2.2.1 with
    | .int y :: .int x :: st => pm_push q i.2.1 (.int (x - y)) st
    | _ => none
  | .imul => match q.2.2.1 with
    | .int y :: .int x :: st => pm_push q i.2.1 (.int (x * y)) st
    | _ => none
  | .irem => match q.2.2.1 with
    | .int y :: .int x :: st => some ((q.1 + i.2.1, q.2.1, .int (x - x / y * y) :: st, q.2.2.2), some (¬ y = 0))
    | _ => none
  | .idiv => match q.2.2.1 with
    | .int y :: .int x :: st => some ((q.1 + i.2.1, q.2.1, .int (x / y) :: st, q.2.2.2), some (¬ y = 0))
    | _ => none
  | .iand => match q.2.2.1 with
    | .int y :: .int x :: st => pm_push q i.2.1 (.int (x &&& y)) st
    | _ => none
  | .ior => match q.2.2.1 with
    | .int y :: .int x :: st => pm_push q i.2.1 (.int (x ||| y)) st
    | _ => none
  | .ixor => match q.2.2.1 with
    | .int y :: .int x :: st => pm_push q i.2.1 (.int (x ^^^ y)) st
    | _ => none
  | .ishl => match q.2.2.1 with
    | .int y :: .int x :: st => pm_push q i.2.1 (.int (x <<< (y &&& 31))) st
    | _ => none
  | .ishr => match q.2.2.1 with
    | .int y :: .int x :: st => pm_push q i.2.1 (.int (x >>> (y &&& 31))) st
    | _ => none
  | .i2l => match q.2.2.1 with
    | .int x :: st => pm_push q i.2.1 (.long x.toInt64) st
    | _ => none
  | .i2c => match q.2.2.1 with
    | .int x :: st => pm_push q i.2.1 (.int (x.toUInt32 % 65536).toInt32) st
    | _ => none
  | .iaload => match q.2.2.1 with
    | .int k :: .ref r :: st => (match pm_arl 0 r with
      | some n => some ((q.1 + i.2.1, q.2.1, .int (q.2.2.2.1 r k.toNatClampNeg) :: st, q.2.2.2), some (vp_in k n))
      | none => none)
    | _ => none
  | .iastore => match q.2.2.1 with
    | .int x :: .int k :: .ref r :: st => (match pm_arl 0 r with
      | some n => some ((q.1 + i.2.1, q.2.1, st, pm_set q.2.2.2 r k.toNatClampNeg x), some (vp_in k n))
      | none => none)
    | _ => none
  | .caload => match q.2.2.1 with
    | .int k :: .ref r :: st => (match pm_arl 1 r with
      | some n => some ((q.1 + i.2.1, q.2.1, .int (q.2.2.2.1 r k.toNatClampNeg) :: st, q.2.2.2), some (vp_in k n))
      | none => none)
    | _ => none
  | .laload => match q.2.2.1 with
    | .int k :: .ref r :: st => (match pm_arl 2 r with
      | some n => some ((q.1 + i.2.1, q.2.1, .long (q.2.2.2.2.1 k.toNatClampNeg) :: st, q.2.2.2), some (vp_in k n))
      | none => none)
    | _ => none
  | .arraylength => match q.2.2.1 with
    | .ref r :: st => (match pm_arl 0 r with
      | some n => pm_push q i.2.1 (.int (Int32.ofNat n)) st
      | none => none)
    | _ => none
  | _ => none
/-- the code at pc is these instructions -/
def pm_code (own : Nat) (cc : ByteArray) : Nat → List pm_PI → Bool
  | _, [] => true
  | pc, i :: is => decide (decode cc pc = .ok (i.1, i.2.1)) && (pm_ok own pc i && pm_code own cc (match i.1 with | .goto _ => i.2.2.1 | _ => pc + i.2.1) is)
def pm_run : List pm_PI → pm_St → Option (pm_St × Prop)
  | [], q => some (q, True)
  | i :: is, q => match pm_step i q with
    | some (q1, none) => pm_run is q1
    | some (q1, some c) => match pm_run is q1 with
      | some (q2, d) => some (q2, c ∧ d)
      | none => none
    | none => none
