/-! the class's small methods -/
theorem zl1 {p : Prop} [Decidable p] {σ : XS} (h : p) : ((some (zci (zb2 p)), σ) : Option Value × XS) = (some (zci 1), σ) := by rw [zb2_t h]
theorem zl0 {p : Prop} [Decidable p] {σ : XS} (h : ¬ p) : ((some (zci (zb2 p)), σ) : Option Value × XS) = (some (zci 0), σ) := by rw [zb2_f h]
theorem zli {p : Prop} [Decidable p] {x y : Int} {σ : XS} (h : p) : ((some (zci (if p then x else y)), σ) : Option Value × XS) = (some (zci x), σ) := by rw [if_pos h]
theorem zle {p : Prop} [Decidable p] {x y : Int} {σ : XS} (h : ¬ p) : ((some (zci (if p then x else y)), σ) : Option Value × XS) = (some (zci y), σ) := by rw [if_neg h]
set_option maxRecDepth 10000 in
theorem zr_18 {d : Nat} {A B : ZM} {s : Int} (hs : 0 ≤ s ∧ s < 3) (hA : zRg A)   : XR (d + 1) 18 [.ref (44 + 2 * s.toNat)] (zhp A B) (some (zci (zb2 (100 ≤ A (44 + 2 * s) 1))), zhp A B) := by
  refine XR.of (Nat.le_of_ble_eq_true rfl) rfl ?_
  refine xg_step rfl rfl (fun k => rfl) ?_
  refine xg_get rfl rfl (zha (by omega)) (zc_Counter hs) rfl rfl ?_
  refine zg_bi rfl (by decide) ?_
  refine zg_lt rfl rfl (fun x y k => rfl) (by first | assumption | exact hA _ _ | exact hB _ _ | (constructor <;> omega)) (by first | assumption | exact hA _ _ | exact hB _ _ | (constructor <;> omega)) (fun hc => ?_) (fun hc => ?_)
  ·
    refine xg_step rfl rfl (fun k => rfl) ?_
    refine zg_iret rfl rfl (zfitZ (by omega)) ?_
    exact zl0 (by omega)
  ·
    refine xg_step rfl rfl (fun k => rfl) ?_
    refine xg_step rfl rfl (fun k => rfl) ?_
    refine zg_iret rfl rfl (zfitZ (by omega)) ?_
    exact zl1 (by omega)
set_option maxRecDepth 10000 in
theorem zr_19 {d : Nat} {A B : ZM} {s : Int} (hs : 0 ≤ s ∧ s < 3) (hA : zRg A) {k : Int} (hk : zrg k) : XR (d + 1) 19 [.ref (44 + 2 * s.toNat), zci k] (zhp A B) (some (zci (zb2 (1 ≤ k ∧ k ≤ A (44 + 2 * s) 1))), zhp A B) := by
  refine XR.of (Nat.le_of_ble_eq_true rfl) rfl ?_
  refine xg_step rfl rfl (fun k => rfl) ?_
  refine xg_step rfl rfl (fun k => rfl) ?_
  refine zg_lt rfl rfl (fun x y k => rfl) (by first | assumption | exact hA _ _ | exact hB _ _ | (constructor <;> omega)) (by first | assumption | exact hA _ _ | exact hB _ _ | (constructor <;> omega)) (fun hc => ?_) (fun hc => ?_)
  ·
    refine xg_step rfl rfl (fun k => rfl) ?_
    refine zg_iret rfl rfl (zfitZ (by omega)) ?_
    exact zl0 (by omega)
  ·
    refine xg_step rfl rfl (fun k => rfl) ?_
    refine xg_step rfl rfl (fun k => rfl) ?_
    refine xg_get rfl rfl (zha (by omega)) (zc_Counter hs) rfl rfl ?_
    refine zg_gt rfl rfl (fun x y k => rfl) (by first | assumption | exact hA _ _ | exact hB _ _ | (constructor <;> omega)) (by first | assumption | exact hA _ _ | exact hB _ _ | (constructor <;> omega)) (fun hc => ?_) (fun hc => ?_)
    ·
      refine xg_step rfl rfl (fun k => rfl) ?_
      refine zg_iret rfl rfl (zfitZ (by omega)) ?_
      exact zl0 (by omega)
    ·
      refine xg_step rfl rfl (fun k => rfl) ?_
      refine xg_step rfl rfl (fun k => rfl) ?_
      refine zg_iret rfl rfl (zfitZ (by omega)) ?_
      exact zl1 (by omega)
set_option maxRecDepth 10000 in
theorem zr_20 {d : Nat} {A B : ZM} {s : Int} (hs : 0 ≤ s ∧ s < 3) (hA : zRg A) {k : Int} {w : Int} (hk : zrg k) (hw : zrg w) (hc : 0 ≤ A (44 + 2 * s) 1 ∧ A (44 + 2 * s) 1 ≤ 100) : XR (d + 2) 20 [.ref (44 + 2 * s.toNat), zci k, zci w] (zhp A B) (some (zci (if (1 ≤ k ∧ k ≤ A (44 + 2 * s) 1) ∧ 0 ≤ w ∧ w < 5 then A (45 + 2 * s) (k * 5 + w) else -1)), zhp A B) := by
  refine XR.of (Nat.le_of_ble_eq_true rfl) rfl ?_
  refine xg_step rfl rfl (fun k => rfl) ?_
  refine xg_step rfl rfl (fun k => rfl) ?_
  refine zg_cvb rfl rfl rfl (by decide) (zha (by omega)) (zc_Counter hs) rfl rfl (zr_19 hs hA (by first | assumption | exact hA _ _ | exact hB _ _ | (constructor <;> omega))) (fun hc => ?_) (fun hc => ?_)
  ·
    refine xg_step rfl rfl (fun k => rfl) ?_
    refine xg_step rfl rfl (fun k => rfl) ?_
    refine zg_lt0 rfl rfl (fun x k => rfl) (by first | assumption | exact hA _ _ | exact hB _ _ | (constructor <;> omega)) (fun hc => ?_) (fun hc => ?_)
    ·
      refine xg_step rfl rfl (fun k => rfl) ?_
      refine zg_iret rfl rfl zfitI ?_
      first | exact zli (by omega) | exact zle (by omega)
    ·
      refine xg_step rfl rfl (fun k => rfl) ?_
      refine xg_step rfl rfl (fun k => rfl) ?_
      refine zg_lt rfl rfl (fun x y k => rfl) (by first | assumption | exact hA _ _ | exact hB _ _ | (constructor <;> omega)) (by first | assumption | exact hA _ _ | exact hB _ _ | (constructor <;> omega)) (fun hc => ?_) (fun hc => ?_)
      ·
        refine xg_step rfl rfl (fun k => rfl) ?_
        refine xg_get rfl rfl (zha (by omega)) (zc_Counter hs) rfl rfl ?_
        refine xg_step rfl rfl (fun k => rfl) ?_
        refine xg_step rfl rfl (fun k => rfl) ?_
        refine zg_mul rfl ?_
        refine xg_step rfl rfl (fun k => rfl) ?_
        refine zg_add rfl ?_
        refine zg_ald (.inl ⟨rfl, rfl⟩) (zha (by omega)) (zc_cells hs) (by decide) ⟨by omega, by omega⟩ rfl ?_
        refine xg_step rfl rfl (fun k => rfl) ?_
        refine zg_iret rfl rfl zfitI ?_
        first | exact zli (by omega) | exact zle (by omega)
      ·
        refine xg_step rfl rfl (fun k => rfl) ?_
        refine zg_iret rfl rfl zfitI ?_
        first | exact zli (by omega) | exact zle (by omega)
  ·
    refine xg_step rfl rfl (fun k => rfl) ?_
    refine xg_step rfl rfl (fun k => rfl) ?_
    refine zg_iret rfl rfl zfitI ?_
    first | exact zli (by omega) | exact zle (by omega)
set_option maxRecDepth 10000 in
theorem zr_21 {d : Nat} {A B : ZM} {s : Int} (hs : 0 ≤ s ∧ s < 3) (hA : zRg A) {k : Int} {a : Int} {v : Int} (hk : zrg k) (ha : zrg a) (hv : zrg v) (hc : 0 ≤ A (44 + 2 * s) 1 ∧ A (44 + 2 * s) 1 ≤ 100) : XR (d + 1) 21 [.ref (44 + 2 * s.toNat), zci k, zci a, zci v] (zhp A B) (some (zci (zb2 ((1 ≤ k ∧ k ≤ A (44 + 2 * s) 1) ∧ A (45 + 2 * s) (k * 5 + 0) = a ∧ A (45 + 2 * s) (k * 5 + 1) = v))), zhp A B) := by
  refine XR.of (Nat.le_of_ble_eq_true rfl) rfl ?_
  refine xg_step rfl rfl (fun k => rfl) ?_
  refine xg_step rfl rfl (fun k => rfl) ?_
  refine zg_lt rfl rfl (fun x y k => rfl) (by first | assumption | exact hA _ _ | exact hB _ _ | (constructor <;> omega)) (by first | assumption | exact hA _ _ | exact hB _ _ | (constructor <;> omega)) (fun hc => ?_) (fun hc => ?_)
  ·
    refine xg_step rfl rfl (fun k => rfl) ?_
    refine zg_iret rfl rfl (zfitZ (by omega)) ?_
    exact zl0 (by omega)
  ·
    refine xg_step rfl rfl (fun k => rfl) ?_
    refine xg_step rfl rfl (fun k => rfl) ?_
    refine xg_get rfl rfl (zha (by omega)) (zc_Counter hs) rfl rfl ?_
    refine zg_gt rfl rfl (fun x y k => rfl) (by first | assumption | exact hA _ _ | exact hB _ _ | (constructor <;> omega)) (by first | assumption | exact hA _ _ | exact hB _ _ | (constructor <;> omega)) (fun hc => ?_) (fun hc => ?_)
    ·
      refine xg_step rfl rfl (fun k => rfl) ?_
      refine zg_iret rfl rfl (zfitZ (by omega)) ?_
      exact zl0 (by omega)
    ·
      refine xg_step rfl rfl (fun k => rfl) ?_
      refine xg_get rfl rfl (zha (by omega)) (zc_Counter hs) rfl rfl ?_
      refine xg_step rfl rfl (fun k => rfl) ?_
      refine xg_step rfl rfl (fun k => rfl) ?_
      refine zg_mul rfl ?_
      refine xg_step rfl rfl (fun k => rfl) ?_
      refine zg_add rfl ?_
      refine zg_ald (.inl ⟨rfl, rfl⟩) (zha (by omega)) (zc_cells hs) (by decide) ⟨by omega, by omega⟩ rfl ?_
      refine xg_step rfl rfl (fun k => rfl) ?_
      refine zg_eq rfl rfl (fun x y k => rfl) (by first | assumption | exact hA _ _ | exact hB _ _ | (constructor <;> omega)) (by first | assumption | exact hA _ _ | exact hB _ _ | (constructor <;> omega)) (fun hc => ?_) (fun hc => ?_)
      ·
        refine xg_step rfl rfl (fun k => rfl) ?_
        refine xg_get rfl rfl (zha (by omega)) (zc_Counter hs) rfl rfl ?_
        refine xg_step rfl rfl (fun k => rfl) ?_
        refine xg_step rfl rfl (fun k => rfl) ?_
        refine zg_mul rfl ?_
        refine xg_step rfl rfl (fun k => rfl) ?_
        refine zg_add rfl ?_
        refine zg_ald (.inl ⟨rfl, rfl⟩) (zha (by omega)) (zc_cells hs) (by decide) ⟨by omega, by omega⟩ rfl ?_
        refine xg_step rfl rfl (fun k => rfl) ?_
        refine zg_eq rfl rfl (fun x y k => rfl) (by first | assumption | exact hA _ _ | exact hB _ _ | (constructor <;> omega)) (by first | assumption | exact hA _ _ | exact hB _ _ | (constructor <;> omega)) (fun hc => ?_) (fun hc => ?_)
        ·
          refine xg_step rfl rfl (fun k => rfl) ?_
          refine xg_step rfl rfl (fun k => rfl) ?_
          refine zg_iret rfl rfl (zfitZ (by omega)) ?_
          exact zl1 (by omega)
        ·
          refine xg_step rfl rfl (fun k => rfl) ?_
          refine zg_iret rfl rfl (zfitZ (by omega)) ?_
          exact zl0 (by omega)
      ·
        refine xg_step rfl rfl (fun k => rfl) ?_
        refine zg_iret rfl rfl (zfitZ (by omega)) ?_
        exact zl0 (by omega)
set_option maxRecDepth 10000 in
theorem zr_24 {d : Nat} {A B : ZM} {s : Int} (hs : 0 ≤ s ∧ s < 3) (hA : zRg A) {k : Int} (hk : zrg k) (hc : 0 ≤ A (44 + 2 * s) 1 ∧ A (44 + 2 * s) 1 ≤ 100) : XR (d + 1) 24 [.ref (44 + 2 * s.toNat), zci k] (zhp A B) (some (zci (zb2 ((1 ≤ k ∧ k ≤ A (44 + 2 * s) 1) ∧ A (45 + 2 * s) (k * 5 + 0) ≠ 2 ∧ A (45 + 2 * s) (k * 5 + 4) = 0))), zhp A B) := by
  refine XR.of (Nat.le_of_ble_eq_true rfl) rfl ?_
  refine xg_step rfl rfl (fun k => rfl) ?_
  refine xg_step rfl rfl (fun k => rfl) ?_
  refine zg_lt rfl rfl (fun x y k => rfl) (by first | assumption | exact hA _ _ | exact hB _ _ | (constructor <;> omega)) (by first | assumption | exact hA _ _ | exact hB _ _ | (constructor <;> omega)) (fun hc => ?_) (fun hc => ?_)
  ·
    refine xg_step rfl rfl (fun k => rfl) ?_
    refine zg_iret rfl rfl (zfitZ (by omega)) ?_
    exact zl0 (by omega)
  ·
    refine xg_step rfl rfl (fun k => rfl) ?_
    refine xg_step rfl rfl (fun k => rfl) ?_
    refine xg_get rfl rfl (zha (by omega)) (zc_Counter hs) rfl rfl ?_
    refine zg_gt rfl rfl (fun x y k => rfl) (by first | assumption | exact hA _ _ | exact hB _ _ | (constructor <;> omega)) (by first | assumption | exact hA _ _ | exact hB _ _ | (constructor <;> omega)) (fun hc => ?_) (fun hc => ?_)
    ·
      refine xg_step rfl rfl (fun k => rfl) ?_
      refine zg_iret rfl rfl (zfitZ (by omega)) ?_
      exact zl0 (by omega)
    ·
      refine xg_step rfl rfl (fun k => rfl) ?_
      refine xg_get rfl rfl (zha (by omega)) (zc_Counter hs) rfl rfl ?_
      refine xg_step rfl rfl (fun k => rfl) ?_
      refine xg_step rfl rfl (fun k => rfl) ?_
      refine zg_mul rfl ?_
      refine xg_step rfl rfl (fun k => rfl) ?_
      refine zg_add rfl ?_
      refine zg_ald (.inl ⟨rfl, rfl⟩) (zha (by omega)) (zc_cells hs) (by decide) ⟨by omega, by omega⟩ rfl ?_
      refine xg_step rfl rfl (fun k => rfl) ?_
      refine zg_eq rfl rfl (fun x y k => rfl) (by first | assumption | exact hA _ _ | exact hB _ _ | (constructor <;> omega)) (by first | assumption | exact hA _ _ | exact hB _ _ | (constructor <;> omega)) (fun hc => ?_) (fun hc => ?_)
      ·
        refine xg_step rfl rfl (fun k => rfl) ?_
        refine zg_iret rfl rfl (zfitZ (by omega)) ?_
        exact zl0 (by omega)
      ·
        refine xg_step rfl rfl (fun k => rfl) ?_
        refine xg_get rfl rfl (zha (by omega)) (zc_Counter hs) rfl rfl ?_
        refine xg_step rfl rfl (fun k => rfl) ?_
        refine xg_step rfl rfl (fun k => rfl) ?_
        refine zg_mul rfl ?_
        refine xg_step rfl rfl (fun k => rfl) ?_
        refine zg_add rfl ?_
        refine zg_ald (.inl ⟨rfl, rfl⟩) (zha (by omega)) (zc_cells hs) (by decide) ⟨by omega, by omega⟩ rfl ?_
        refine zg_eq0 rfl rfl (fun x k => rfl) (by first | assumption | exact hA _ _ | exact hB _ _ | (constructor <;> omega)) (fun hc => ?_) (fun hc => ?_)
        ·
          refine xg_step rfl rfl (fun k => rfl) ?_
          refine xg_step rfl rfl (fun k => rfl) ?_
          refine zg_iret rfl rfl (zfitZ (by omega)) ?_
          exact zl1 (by omega)
        ·
          refine xg_step rfl rfl (fun k => rfl) ?_
          refine zg_iret rfl rfl (zfitZ (by omega)) ?_
          exact zl0 (by omega)
