/-! runs of leaves -/
set_option maxRecDepth 10000 in
theorem xr_pairOf {d : Nat} {s k : Int32} {σ : XS} : XR (d + 1) 100 [.int s, .int k] σ (some (.int (k * 3 + s)), σ) := by
  refine XR.of (Nat.le_of_ble_eq_true rfl) rfl ?_
  iterate 5 refine xg_step rfl rfl (fun k => rfl) ?_
  exact xg_ireturn rfl rfl rfl
set_option maxRecDepth 10000 in
theorem xr_serverOf {d : Nat} {v : Int32} {σ : XS} : XR (d + 1) 101 [.int v] σ (some (.int (v - v / 3 * 3)), σ) := by
  refine XR.of (Nat.le_of_ble_eq_true rfl) rfl ?_
  iterate 3 refine xg_step rfl rfl (fun k => rfl) ?_
  exact xg_ireturn rfl rfl rfl
set_option maxRecDepth 10000 in
theorem xr_numberOf {d : Nat} {v : Int32} {σ : XS} : XR (d + 1) 102 [.int v] σ (some (.int (v / 3)), σ) := by
  refine XR.of (Nat.le_of_ble_eq_true rfl) rfl ?_
  iterate 3 refine xg_step rfl rfl (fun k => rfl) ?_
  exact xg_ireturn rfl rfl rfl
set_option maxRecDepth 10000 in
theorem xr_at {d : Nat} {s k : Int32} {σ : XS} : XR (d + 1) 106 [.int s, .int k] σ (some (.int (101 * s + k)), σ) := by
  refine XR.of (Nat.le_of_ble_eq_true rfl) rfl ?_
  iterate 5 refine xg_step rfl rfl (fun k => rfl) ?_
  exact xg_ireturn rfl rfl rfl
set_option maxRecDepth 10000 in
theorem xr_Requests_has {d a : Nat} {k cnt : Int32} {f0 f1 f2 f3 f4 f5 : Value} {σ : XS} (ha : a < σ.1) (hf : σ.2.2 a = .inl (5, [f0, f1, f2, f3, f4, f5, .int cnt])) : XR (d + 1) 35 [.ref a, .int k] σ (some (.int (if k < 0 then 0 else if k < cnt then 1 else 0)), σ) := by
  refine XR.of (Nat.le_of_ble_eq_true rfl) rfl ?_
  refine xg_step rfl rfl (fun k => rfl) ?_
  refine xg_if (c := k < 0) rfl rfl (fun k => rfl) (fun hc => ?_) (fun hc => ?_)
  · rw [if_pos hc]
    refine xg_step rfl rfl (fun k => rfl) ?_
    exact xg_ireturn rfl rfl rfl
  · rw [if_neg hc]
    iterate 2 refine xg_step rfl rfl (fun k => rfl) ?_
    refine xg_get rfl rfl ha hf rfl rfl ?_
    refine xg_if (c := k < cnt) rfl rfl (fun k => rfl) (fun hc => ?_) (fun hc => ?_)
    · rw [if_pos hc]
      iterate 2 refine xg_step rfl rfl (fun k => rfl) ?_
      exact xg_ireturn rfl rfl rfl
    · rw [if_neg hc]
      refine xg_step rfl rfl (fun k => rfl) ?_
      exact xg_ireturn rfl rfl rfl
set_option maxRecDepth 10000 in
theorem xr_Requests_isFull {d a : Nat} {cnt : Int32} {f0 f1 f2 f3 f4 f5 : Value} {σ : XS} (ha : a < σ.1) (hf : σ.2.2 a = .inl (5, [f0, f1, f2, f3, f4, f5, .int cnt])) : XR (d + 1) 34 [.ref a] σ (some (.int (if cnt < 60 then 0 else 1)), σ) := by
  refine XR.of (Nat.le_of_ble_eq_true rfl) rfl ?_
  refine xg_step rfl rfl (fun k => rfl) ?_
  refine xg_get rfl rfl ha hf rfl rfl ?_
  refine xg_step rfl rfl (fun k => rfl) ?_
  refine xg_if (c := cnt < 60) rfl rfl (fun k => rfl) (fun hc => ?_) (fun hc => ?_)
  · rw [if_pos hc]
    refine xg_step rfl rfl (fun k => rfl) ?_
    exact xg_ireturn rfl rfl rfl
  · rw [if_neg hc]
    iterate 2 refine xg_step rfl rfl (fun k => rfl) ?_
    exact xg_ireturn rfl rfl rfl
