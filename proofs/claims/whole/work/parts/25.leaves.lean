/-! runs of leaves -/
set_option maxRecDepth 10000 in
theorem xr_pairOf {d : Nat} {s k : Int32} {σ : XS} : XR (d + 1) 100 [.int s, .int k] σ (some (.int (k * 3 + s)), σ) := by
  refine XR.of (Nat.le_of_ble_eq_true rfl) rfl ?_
  iterate 5 refine xg_step rfl rfl (fun k => rfl) ?_
  exact xg_ireturn rfl rfl rfl
set_option maxRecDepth 10000 in
theorem xr_serverOf {d : Nat} {v : Int32} {σ : XS} : XR (d + 1) 101 [.int v] σ (some (.int (v - v / 3 * 3)), σ) := by
  refine XR.of (Nat.le_of_ble_eq_true rfl) rfl ?_
  iterate 3 refine xg_step rfl rfl (fun k => rfl) ?_
  exact xg_ireturn rfl rfl rfl
set_option maxRecDepth 10000 in
theorem xr_numberOf {d : Nat} {v : Int32} {σ : XS} : XR (d + 1) 102 [.int v] σ (some (.int (v / 3)), σ) := by
  refine XR.of (Nat.le_of_ble_eq_true rfl) rfl ?_
  iterate 3 refine xg_step rfl rfl (fun k => rfl) ?_
  exact xg_ireturn rfl rfl rfl
set_option maxRecDepth 10000 in
theorem xr_at {d : Nat} {s k : Int32} {σ : XS} : XR (d + 1) 106 [.int s, .int k] σ (some (.int (101 * s + k)), σ) := by
  refine XR.of (Nat.le_of_ble_eq_true rfl) rfl ?_
  iterate 5 refine xg_step rfl rfl (fun k => rfl) ?_
  exact xg_ireturn rfl rfl rfl
