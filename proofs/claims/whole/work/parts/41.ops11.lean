/-! the model: the refusal, numbers read -/
set_option maxHeartbeats 4000000 in
set_option maxRecDepth 100000 in
theorem c_X10_refusal_no (μ : pm_Mm) (hr : μ.1 47 6 = 0) : pm_CT mi_X10_refusal [.ref 47] μ (fun v μ2 => v = some (.int 0) ∧ μ2 = pm_set μ 47 7 1) pm_NX := by
  refine pm_CT_of (lo := [some (.ref 47)]) (by decide +kernel) rfl rfl (by intro v hv; simp at hv; rcases hv with rfl; rfl) (Nat.le_of_ble_eq_true rfl) rfl ?_
  refine pm_bl [(.aload_n 0, 1, 0, 0, 0), (.aload_n 0, 1, 0, 0, 0), (.getfield 38, 3, 10, 6, 0)] (pc1 := 5) (lo1 := [some (.ref 47)]) (st1 := [.int (μ.1 47 6), .ref 47]) (μ1 := μ) (vc := True) rfl (by decide +kernel) rfl trivial ?_
  rw [hr]
  refine pm_if_ne (off := 7) 12 (by decide +kernel) (by decide) (fun h9 => absurd h9 (by decide)) (fun _ => ?_)
  refine pm_bl [(.iconst 1, 1, 0, 0, 1), (.goto 4, 3, 13, 0, 0), (.putfield 35, 3, 10, 7, 0), (.aload_n 0, 1, 0, 0, 0), (.getfield 38, 3, 10, 6, 0)] (pc1 := 20) (lo1 := [some (.ref 47)]) (st1 := [.int ((pm_set μ 47 7 1).1 47 6)]) (μ1 := pm_set μ 47 7 1) (vc := True) rfl (by decide +kernel) rfl trivial ?_
  rw [show (pm_set μ 47 7 1).1 47 6 = μ.1 47 6 from by rw [pm_set_miss] <;> omega]
  rw [hr]
  exact pm_iret (ty := .int) rfl rfl (by decide) (by decide) (by decide +kernel) (⟨rfl, rfl⟩)
set_option maxHeartbeats 4000000 in
set_option maxRecDepth 100000 in
theorem c_X10_refusal (μ : pm_Mm) (hr : ¬ μ.1 47 6 = 0) : pm_CT mi_X10_refusal [.ref 47] μ (fun v μ2 => v = some (.int (μ.1 47 6)) ∧ μ2 = pm_set μ 47 7 0) pm_NX := by
  refine pm_CT_of (lo := [some (.ref 47)]) (by decide +kernel) rfl rfl (by intro v hv; simp at hv; rcases hv with rfl; rfl) (Nat.le_of_ble_eq_true rfl) rfl ?_
  refine pm_bl [(.aload_n 0, 1, 0, 0, 0), (.aload_n 0, 1, 0, 0, 0), (.getfield 38, 3, 10, 6, 0)] (pc1 := 5) (lo1 := [some (.ref 47)]) (st1 := [.int (μ.1 47 6), .ref 47]) (μ1 := μ) (vc := True) rfl (by decide +kernel) rfl trivial ?_
  refine pm_if_ne (off := 7) 12 (by decide +kernel) (by decide) (fun (h5 : ¬ (μ.1 47 6) = 0) => ?_) (fun (h9 : (μ.1 47 6) = 0) => absurd h9 hr)
  refine pm_bl [(.iconst 0, 1, 0, 0, 0), (.putfield 35, 3, 10, 7, 0), (.aload_n 0, 1, 0, 0, 0), (.getfield 38, 3, 10, 6, 0)] (pc1 := 20) (lo1 := [some (.ref 47)]) (st1 := [.int ((pm_set μ 47 7 0).1 47 6)]) (μ1 := pm_set μ 47 7 0) (vc := True) rfl (by decide +kernel) rfl trivial ?_
  rw [show (pm_set μ 47 7 0).1 47 6 = μ.1 47 6 from by rw [pm_set_miss] <;> omega]
  exact pm_iret (ty := .int) rfl rfl (by decide) (by decide) (by decide +kernel) (⟨rfl, rfl⟩)
