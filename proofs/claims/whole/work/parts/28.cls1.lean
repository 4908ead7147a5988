/-! the class's small methods -/
theorem zl1 {p : Prop} [Decidable p] {σ : XS} (h : p) : ((some (zci (zb2 p)), σ) : Option Value × XS) = (some (zci 1), σ) := by rw [zb2_t h]
theorem zl0 {p : Prop} [Decidable p] {σ : XS} (h : ¬ p) : ((some (zci (zb2 p)), σ) : Option Value × XS) = (some (zci 0), σ) := by rw [zb2_f h]
theorem zli {p : Prop} [Decidable p] {x y : Int} {σ : XS} (h : p) : ((some (zci (if p then x else y)), σ) : Option Value × XS) = (some (zci x), σ) := by rw [if_pos h]
theorem zle {p : Prop} [Decidable p] {x y : Int} {σ : XS} (h : ¬ p) : ((some (zci (if p then x else y)), σ) : Option Value × XS) = (some (zci y), σ) := by rw [if_neg h]
set_option maxRecDepth 10000 in
theorem zr_18 {d : Nat} {A B : ZM} {s : Int} (hs : 0 ≤ s ∧ s < 3) (hA : zRg A)   : XR (d + 1) 18 [.ref (44 + 2 * s.toNat)] (zhp A B) (some (zci (zb2 (100 ≤ A (44 + 2 * s) 1))), zhp A B) := by
  refine XR.of (Nat.le_of_ble_eq_true rfl) rfl ?_
  refine xg_step rfl rfl (fun k => rfl) ?_
  refine xg_get rfl rfl (zha (by omega)) (zc_Counter hs) rfl rfl ?_
  refine zg_bi rfl (by decide) ?_
  refine zg_lt rfl rfl (fun x y k => rfl) (by first | assumption | exact hA _ _ | exact hB _ _ | exact zrg_max (by assumption) (hA _ _) | (constructor <;> omega)) (by first | assumption | exact hA _ _ | exact hB _ _ | exact zrg_max (by assumption) (hA _ _) | (constructor <;> omega)) (fun hc => ?_) (fun hc => ?_)
  ·
    refine xg_step rfl rfl (fun k => rfl) ?_
    refine zg_iret rfl rfl (zfitZ (by omega)) ?_
    exact zl0 (by omega)
  ·
    refine xg_step rfl rfl (fun k => rfl) ?_
    refine xg_step rfl rfl (fun k => rfl) ?_
    refine zg_iret rfl rfl (zfitZ (by omega)) ?_
    exact zl1 (by omega)
set_option maxRecDepth 10000 in
theorem zr_19 {d : Nat} {A B : ZM} {s : Int} (hs : 0 ≤ s ∧ s < 3) (hA : zRg A) {k : Int} (hk : zrg k) : XR (d + 1) 19 [.ref (44 + 2 * s.toNat), zci k] (zhp A B) (some (zci (zb2 (1 ≤ k ∧ k ≤ A (44 + 2 * s) 1))), zhp A B) := by
  refine XR.of (Nat.le_of_ble_eq_true rfl) rfl ?_
  refine xg_step rfl rfl (fun k => rfl) ?_
  refine xg_step rfl rfl (fun k => rfl) ?_
  refine zg_lt rfl rfl (fun x y k => rfl) (by first | assumption | exact hA _ _ | exact hB _ _ | exact zrg_max (by assumption) (hA _ _) | (constructor <;> omega)) (by first | assumption | exact hA _ _ | exact hB _ _ | exact zrg_max (by assumption) (hA _ _) | (constructor <;> omega)) (fun hc => ?_) (fun hc => ?_)
  ·
    refine xg_step rfl rfl (fun k => rfl) ?_
    refine zg_iret rfl rfl (zfitZ (by omega)) ?_
    exact zl0 (by omega)
  ·
    refine xg_step rfl rfl (fun k => rfl) ?_
    refine xg_step rfl rfl (fun k => rfl) ?_
    refine xg_get rfl rfl (zha (by omega)) (zc_Counter hs) rfl rfl ?_
    refine zg_gt rfl rfl (fun x y k => rfl) (by first | assumption | exact hA _ _ | exact hB _ _ | exact zrg_max (by assumption) (hA _ _) | (constructor <;> omega)) (by first | assumption | exact hA _ _ | exact hB _ _ | exact zrg_max (by assumption) (hA _ _) | (constructor <;> omega)) (fun hc => ?_) (fun hc => ?_)
    ·
      refine xg_step rfl rfl (fun k => rfl) ?_
      refine zg_iret rfl rfl (zfitZ (by omega)) ?_
      exact zl0 (by omega)
    ·
      refine xg_step rfl rfl (fun k => rfl) ?_
      refine xg_step rfl rfl (fun k => rfl) ?_
      refine zg_iret rfl rfl (zfitZ (by omega)) ?_
      exact zl1 (by omega)
set_option maxRecDepth 10000 in
theorem zr_20 {d : Nat} {A B : ZM} {s : Int} (hs : 0 ≤ s ∧ s < 3) (hA : zRg A) {k : Int} {w : Int} (hk : zrg k) (hw : zrg w) (hc : 0 ≤ A (44 + 2 * s) 1 ∧ A (44 + 2 * s) 1 ≤ 100) : XR (d + 2) 20 [.ref (44 + 2 * s.toNat), zci k, zci w] (zhp A B) (some (zci (if (1 ≤ k ∧ k ≤ A (44 + 2 * s) 1) ∧ 0 ≤ w ∧ w < 5 then A (45 + 2 * s) (k * 5 + w) else -1)), zhp A B) := by
  refine XR.of (Nat.le_of_ble_eq_true rfl) rfl ?_
  refine xg_step rfl rfl (fun k => rfl) ?_
  refine xg_step rfl rfl (fun k => rfl) ?_
  refine zg_cvb rfl rfl rfl (Nat.le_of_ble_eq_true rfl) (zha (by omega)) (zc_Counter hs) rfl rfl (zr_19 hs hA (by first | assumption | exact hA _ _ | exact hB _ _ | exact zrg_max (by assumption) (hA _ _) | (constructor <;> omega))) (fun hc => ?_) (fun hc => ?_)
  ·
    refine xg_step rfl rfl (fun k => rfl) ?_
    refine xg_step rfl rfl (fun k => rfl) ?_
    refine zg_lt0 rfl rfl (fun x k => rfl) (by first | assumption | exact hA _ _ | exact hB _ _ | exact zrg_max (by assumption) (hA _ _) | (constructor <;> omega)) (fun hc => ?_) (fun hc => ?_)
    ·
      refine xg_step rfl rfl (fun k => rfl) ?_
      refine zg_iret rfl rfl zfitI ?_
      first | exact zli (by omega) | exact zle (by omega)
    ·
      refine xg_step rfl rfl (fun k => rfl) ?_
      refine xg_step rfl rfl (fun k => rfl) ?_
      refine zg_lt rfl rfl (fun x y k => rfl) (by first | assumption | exact hA _ _ | exact hB _ _ | exact zrg_max (by assumption) (hA _ _) | (constructor <;> omega)) (by first | assumption | exact hA _ _ | exact hB _ _ | exact zrg_max (by assumption) (hA _ _) | (constructor <;> omega)) (fun hc => ?_) (fun hc => ?_)
      ·
        refine xg_step rfl rfl (fun k => rfl) ?_
        refine xg_get rfl rfl (zha (by omega)) (zc_Counter hs) rfl rfl ?_
        refine xg_step rfl rfl (fun k => rfl) ?_
        refine xg_step rfl rfl (fun k => rfl) ?_
        refine zg_mul rfl ?_
        refine xg_step rfl rfl (fun k => rfl) ?_
        refine zg_add rfl ?_
        refine zg_ald (.inl ⟨rfl, rfl⟩) (zha (by omega)) (zc_cells hs) (by decide) ⟨by omega, by omega⟩ rfl ?_
        refine xg_step rfl rfl (fun k => rfl) ?_
        refine zg_iret rfl rfl zfitI ?_
        first | exact zli (by omega) | exact zle (by omega)
      ·
        refine xg_step rfl rfl (fun k => rfl) ?_
        refine zg_iret rfl rfl zfitI ?_
        first | exact zli (by omega) | exact zle (by omega)
  ·
    refine xg_step rfl rfl (fun k => rfl) ?_
    refine xg_step rfl rfl (fun k => rfl) ?_
    refine zg_iret rfl rfl zfitI ?_
    first | exact zli (by omega) | exact zle (by omega)
set_option maxRecDepth 10000 in
theorem zr_21 {d : Nat} {A B : ZM} {s : Int} (hs : 0 ≤ s ∧ s < 3) (hA : zRg A) {k : Int} {a : Int} {v : Int} (hk : zrg k) (ha : zrg a) (hv : zrg v) (hc : 0 ≤ A (44 + 2 * s) 1 ∧ A (44 + 2 * s) 1 ≤ 100) : XR (d + 1) 21 [.ref (44 + 2 * s.toNat), zci k, zci a, zci v] (zhp A B) (some (zci (zb2 ((1 ≤ k ∧ k ≤ A (44 + 2 * s) 1) ∧ A (45 + 2 * s) (k * 5 + 0) = a ∧ A (45 + 2 * s) (k * 5 + 1) = v))), zhp A B) := by
  refine XR.of (Nat.le_of_ble_eq_true rfl) rfl ?_
  refine xg_step rfl rfl (fun k => rfl) ?_
  refine xg_step rfl rfl (fun k => rfl) ?_
  refine zg_lt rfl rfl (fun x y k => rfl) (by first | assumption | exact hA _ _ | exact hB _ _ | exact zrg_max (by assumption) (hA _ _) | (constructor <;> omega)) (by first | assumption | exact hA _ _ | exact hB _ _ | exact zrg_max (by assumption) (hA _ _) | (constructor <;> omega)) (fun hc => ?_) (fun hc => ?_)
  ·
    refine xg_step rfl rfl (fun k => rfl) ?_
    refine zg_iret rfl rfl (zfitZ (by omega)) ?_
    exact zl0 (by omega)
  ·
    refine xg_step rfl rfl (fun k => rfl) ?_
    refine xg_step rfl rfl (fun k => rfl) ?_
    refine xg_get rfl rfl (zha (by omega)) (zc_Counter hs) rfl rfl ?_
    refine zg_gt rfl rfl (fun x y k => rfl) (by first | assumption | exact hA _ _ | exact hB _ _ | exact zrg_max (by assumption) (hA _ _) | (constructor <;> omega)) (by first | assumption | exact hA _ _ | exact hB _ _ | exact zrg_max (by assumption) (hA _ _) | (constructor <;> omega)) (fun hc => ?_) (fun hc => ?_)
    ·
      refine xg_step rfl rfl (fun k => rfl) ?_
      refine zg_iret rfl rfl (zfitZ (by omega)) ?_
      exact zl0 (by omega)
    ·
      refine xg_step rfl rfl (fun k => rfl) ?_
      refine xg_get rfl rfl (zha (by omega)) (zc_Counter hs) rfl rfl ?_
      refine xg_step rfl rfl (fun k => rfl) ?_
      refine xg_step rfl rfl (fun k => rfl) ?_
      refine zg_mul rfl ?_
      refine xg_step rfl rfl (fun k => rfl) ?_
      refine zg_add rfl ?_
      refine zg_ald (.inl ⟨rfl, rfl⟩) (zha (by omega)) (zc_cells hs) (by decide) ⟨by omega, by omega⟩ rfl ?_
      refine xg_step rfl rfl (fun k => rfl) ?_
      refine zg_eq rfl rfl (fun x y k => rfl) (by first | assumption | exact hA _ _ | exact hB _ _ | exact zrg_max (by assumption) (hA _ _) | (constructor <;> omega)) (by first | assumption | exact hA _ _ | exact hB _ _ | exact zrg_max (by assumption) (hA _ _) | (constructor <;> omega)) (fun hc => ?_) (fun hc => ?_)
      ·
        refine xg_step rfl rfl (fun k => rfl) ?_
        refine xg_get rfl rfl (zha (by omega)) (zc_Counter hs) rfl rfl ?_
        refine xg_step rfl rfl (fun k => rfl) ?_
        refine xg_step rfl rfl (fun k => rfl) ?_
        refine zg_mul rfl ?_
        refine xg_step rfl rfl (fun k => rfl) ?_
        refine zg_add rfl ?_
        refine zg_ald (.inl ⟨rfl, rfl⟩) (zha (by omega)) (zc_cells hs) (by decide) ⟨by omega, by omega⟩ rfl ?_
        refine xg_step rfl rfl (fun k => rfl) ?_
        refine zg_eq rfl rfl (fun x y k => rfl) (by first | assumption | exact hA _ _ | exact hB _ _ | exact zrg_max (by assumption) (hA _ _) | (constructor <;> omega)) (by first | assumption | exact hA _ _ | exact hB _ _ | exact zrg_max (by assumption) (hA _ _) | (constructor <;> omega)) (fun hc => ?_) (fun hc => ?_)
        ·
          refine xg_step rfl rfl (fun k => rfl) ?_
          refine xg_step rfl rfl (fun k => rfl) ?_
          refine zg_iret rfl rfl (zfitZ (by omega)) ?_
          exact zl1 (by omega)
        ·
          refine xg_step rfl rfl (fun k => rfl) ?_
          refine zg_iret rfl rfl (zfitZ (by omega)) ?_
          exact zl0 (by omega)
      ·
        refine xg_step rfl rfl (fun k => rfl) ?_
        refine zg_iret rfl rfl (zfitZ (by omega)) ?_
        exact zl0 (by omega)
set_option maxRecDepth 10000 in
theorem zr_24 {d : Nat} {A B : ZM} {s : Int} (hs : 0 ≤ s ∧ s < 3) (hA : zRg A) {k : Int} (hk : zrg k) (hc : 0 ≤ A (44 + 2 * s) 1 ∧ A (44 + 2 * s) 1 ≤ 100) : XR (d + 1) 24 [.ref (44 + 2 * s.toNat), zci k] (zhp A B) (some (zci (zb2 ((1 ≤ k ∧ k ≤ A (44 + 2 * s) 1) ∧ A (45 + 2 * s) (k * 5 + 0) ≠ 2 ∧ A (45 + 2 * s) (k * 5 + 4) = 0))), zhp A B) := by
  refine XR.of (Nat.le_of_ble_eq_true rfl) rfl ?_
  refine xg_step rfl rfl (fun k => rfl) ?_
  refine xg_step rfl rfl (fun k => rfl) ?_
  refine zg_lt rfl rfl (fun x y k => rfl) (by first | assumption | exact hA _ _ | exact hB _ _ | exact zrg_max (by assumption) (hA _ _) | (constructor <;> omega)) (by first | assumption | exact hA _ _ | exact hB _ _ | exact zrg_max (by assumption) (hA _ _) | (constructor <;> omega)) (fun hc => ?_) (fun hc => ?_)
  ·
    refine xg_step rfl rfl (fun k => rfl) ?_
    refine zg_iret rfl rfl (zfitZ (by omega)) ?_
    exact zl0 (by omega)
  ·
    refine xg_step rfl rfl (fun k => rfl) ?_
    refine xg_step rfl rfl (fun k => rfl) ?_
    refine xg_get rfl rfl (zha (by omega)) (zc_Counter hs) rfl rfl ?_
    refine zg_gt rfl rfl (fun x y k => rfl) (by first | assumption | exact hA _ _ | exact hB _ _ | exact zrg_max (by assumption) (hA _ _) | (constructor <;> omega)) (by first | assumption | exact hA _ _ | exact hB _ _ | exact zrg_max (by assumption) (hA _ _) | (constructor <;> omega)) (fun hc => ?_) (fun hc => ?_)
    ·
      refine xg_step rfl rfl (fun k => rfl) ?_
      refine zg_iret rfl rfl (zfitZ (by omega)) ?_
      exact zl0 (by omega)
    ·
      refine xg_step rfl rfl (fun k => rfl) ?_
      refine xg_get rfl rfl (zha (by omega)) (zc_Counter hs) rfl rfl ?_
      refine xg_step rfl rfl (fun k => rfl) ?_
      refine xg_step rfl rfl (fun k => rfl) ?_
      refine zg_mul rfl ?_
      refine xg_step rfl rfl (fun k => rfl) ?_
      refine zg_add rfl ?_
      refine zg_ald (.inl ⟨rfl, rfl⟩) (zha (by omega)) (zc_cells hs) (by decide) ⟨by omega, by omega⟩ rfl ?_
      refine xg_step rfl rfl (fun k => rfl) ?_
      refine zg_eq rfl rfl (fun x y k => rfl) (by first | assumption | exact hA _ _ | exact hB _ _ | exact zrg_max (by assumption) (hA _ _) | (constructor <;> omega)) (by first | assumption | exact hA _ _ | exact hB _ _ | exact zrg_max (by assumption) (hA _ _) | (constructor <;> omega)) (fun hc => ?_) (fun hc => ?_)
      ·
        refine xg_step rfl rfl (fun k => rfl) ?_
        refine zg_iret rfl rfl (zfitZ (by omega)) ?_
        exact zl0 (by omega)
      ·
        refine xg_step rfl rfl (fun k => rfl) ?_
        refine xg_get rfl rfl (zha (by omega)) (zc_Counter hs) rfl rfl ?_
        refine xg_step rfl rfl (fun k => rfl) ?_
        refine xg_step rfl rfl (fun k => rfl) ?_
        refine zg_mul rfl ?_
        refine xg_step rfl rfl (fun k => rfl) ?_
        refine zg_add rfl ?_
        refine zg_ald (.inl ⟨rfl, rfl⟩) (zha (by omega)) (zc_cells hs) (by decide) ⟨by omega, by omega⟩ rfl ?_
        refine zg_eq0 rfl rfl (fun x k => rfl) (by first | assumption | exact hA _ _ | exact hB _ _ | exact zrg_max (by assumption) (hA _ _) | (constructor <;> omega)) (fun hc => ?_) (fun hc => ?_)
        ·
          refine xg_step rfl rfl (fun k => rfl) ?_
          refine xg_step rfl rfl (fun k => rfl) ?_
          refine zg_iret rfl rfl (zfitZ (by omega)) ?_
          exact zl1 (by omega)
        ·
          refine xg_step rfl rfl (fun k => rfl) ?_
          refine zg_iret rfl rfl (zfitZ (by omega)) ?_
          exact zl0 (by omega)
theorem zmt {p : Prop} [Decidable p] {X Y B : ZM} {v : Option Value} (h : p) : ((v, zhp (if p then X else Y) B) : Option Value × XS) = (v, zhp X B) := by rw [if_pos h]
theorem zmf {p : Prop} [Decidable p] {X Y B : ZM} {v : Option Value} (h : ¬ p) : ((v, zhp (if p then X else Y) B) : Option Value × XS) = (v, zhp Y B) := by rw [if_neg h]
theorem zreq {d u : Nat} {vs : List Value} {σ σ1 : XS} {x y : Int} (h : XR d u vs σ (some (zci y), σ1)) (e : y = x) : XR d u vs σ (some (zci x), σ1) := by rw [← e]; exact h
set_option maxRecDepth 10000 in
theorem zr_2 {d : Nat} {A B : ZM} (hA : zRg A) {k : Int} (hk : zrg k) : XR (d + 1) 2 [.ref 50, zci k] (zhp A B) (some (zci (zb2 ((0 ≤ k ∧ k < 60) ∧ ¬ A 53 k = 0))), zhp A B) := by
  refine XR.of (Nat.le_of_ble_eq_true rfl) rfl ?_
  refine xg_step rfl rfl (fun k => rfl) ?_
  refine zg_lt0 rfl rfl (fun x k => rfl) (by first | assumption | exact hA _ _ | exact hB _ _ | exact zrg_max (by assumption) (hA _ _) | (constructor <;> omega)) (fun hc => ?_) (fun hc => ?_)
  ·
    refine xg_step rfl rfl (fun k => rfl) ?_
    refine zg_iret rfl rfl (zfitZ (by omega)) ?_
    exact zl0 (by omega)
  ·
    refine xg_step rfl rfl (fun k => rfl) ?_
    refine zg_bi rfl (by decide) ?_
    refine zg_lt rfl rfl (fun x y k => rfl) (by first | assumption | exact hA _ _ | exact hB _ _ | exact zrg_max (by assumption) (hA _ _) | (constructor <;> omega)) (by first | assumption | exact hA _ _ | exact hB _ _ | exact zrg_max (by assumption) (hA _ _) | (constructor <;> omega)) (fun hc => ?_) (fun hc => ?_)
    ·
      refine xg_step rfl rfl (fun k => rfl) ?_
      refine xg_get rfl rfl (zha (by decide)) zc_Answers rfl rfl ?_
      refine xg_step rfl rfl (fun k => rfl) ?_
      refine zg_ald (.inr ⟨rfl, rfl⟩) (zha (by decide)) zc_aanswered (by decide) ⟨by omega, by omega⟩ rfl ?_
      refine zg_eq0 rfl rfl (fun x k => rfl) (by first | assumption | exact hA _ _ | exact hB _ _ | exact zrg_max (by assumption) (hA _ _) | (constructor <;> omega)) (fun hc => ?_) (fun hc => ?_)
      ·
        refine xg_step rfl rfl (fun k => rfl) ?_
        refine zg_iret rfl rfl (zfitZ (by omega)) ?_
        exact zl0 (by omega)
      ·
        refine xg_step rfl rfl (fun k => rfl) ?_
        refine xg_step rfl rfl (fun k => rfl) ?_
        refine zg_iret rfl rfl (zfitZ (by omega)) ?_
        exact zl1 (by omega)
    ·
      refine xg_step rfl rfl (fun k => rfl) ?_
      refine zg_iret rfl rfl (zfitZ (by omega)) ?_
      exact zl0 (by omega)
set_option maxRecDepth 10000 in
theorem zr_3 {d : Nat} {A B : ZM} (hA : zRg A) {k : Int} (hk : zrg k) : XR (d + 2) 3 [.ref 50, zci k] (zhp A B) (some (zci (if (0 ≤ k ∧ k < 60) ∧ ¬ A 53 k = 0 then A 54 k else 0)), zhp A B) := by
  refine XR.of (Nat.le_of_ble_eq_true rfl) rfl ?_
  refine xg_step rfl rfl (fun k => rfl) ?_
  refine xg_step rfl rfl (fun k => rfl) ?_
  refine zg_cvb rfl rfl rfl (Nat.le_of_ble_eq_true rfl) (zha (by decide)) zc_Answers rfl rfl (zr_2 hA (by first | assumption | exact hA _ _ | exact hB _ _ | exact zrg_max (by assumption) (hA _ _) | (constructor <;> omega))) (fun hc => ?_) (fun hc => ?_)
  ·
    refine xg_step rfl rfl (fun k => rfl) ?_
    refine xg_step rfl rfl (fun k => rfl) ?_
    refine xg_get rfl rfl (zha (by decide)) zc_Answers rfl rfl ?_
    refine xg_step rfl rfl (fun k => rfl) ?_
    refine zg_ald (.inl ⟨rfl, rfl⟩) (zha (by decide)) zc_aanswer (by decide) ⟨by omega, by omega⟩ rfl ?_
    refine xg_step rfl rfl (fun k => rfl) ?_
    refine zg_iret rfl rfl zfitI ?_
    first | exact zli (by omega) | exact zle (by omega)
  ·
    refine xg_step rfl rfl (fun k => rfl) ?_
    refine xg_step rfl rfl (fun k => rfl) ?_
    refine zg_iret rfl rfl zfitI ?_
    first | exact zli (by omega) | exact zle (by omega)
set_option maxRecDepth 10000 in
theorem zr_5 {d : Nat} {A B : ZM} (hA : zRg A) {p : Int} {k : Int} (hp : 0 ≤ p ∧ p < 3) (hk : zrg k) : XR (d + 2) 5 [.ref 8, zci p, zci k] (zhp A B) (some (zci (zb2 (1 ≤ k ∧ k ≤ A (44 + 2 * p) 1))), zhp A B) := by
  refine XR.of (Nat.le_of_ble_eq_true rfl) rfl ?_
  refine xg_step rfl rfl (fun k => rfl) ?_
  refine xg_get rfl rfl (zha (by decide)) zc_Book rfl rfl ?_
  refine xg_step rfl rfl (fun k => rfl) ?_
  refine zg_aald rfl (zha (by decide)) zc_counters (by decide) (by decide) ⟨by omega, by omega⟩ (if_pos (by omega)) ?_
  refine xg_step rfl rfl (fun k => rfl) ?_
  refine zg_cvb rfl rfl rfl (Nat.le_of_ble_eq_true rfl) (zha (by omega)) (zc_Counter (by omega)) rfl rfl (zr_19 hp hA (by first | assumption | exact hA _ _ | exact hB _ _ | exact zrg_max (by assumption) (hA _ _) | (constructor <;> omega))) (fun hc => ?_) (fun hc => ?_)
  ·
    refine zg_iret rfl rfl (zfitZ (by omega)) ?_
    exact zl1 (by assumption)
  ·
    refine zg_iret rfl rfl (zfitZ (by omega)) ?_
    exact zl0 (by assumption)
set_option maxRecDepth 10000 in
theorem zr_6 {d : Nat} {A B : ZM} (hA : zRg A) {p : Int} (hp : 0 ≤ p ∧ p < 3) : XR (d + 1) 6 [.ref 8, zci p] (zhp A B) (some (zci (A (44 + 2 * p) 1)), zhp A B) := by
  refine XR.of (Nat.le_of_ble_eq_true rfl) rfl ?_
  refine xg_step rfl rfl (fun k => rfl) ?_
  refine xg_get rfl rfl (zha (by decide)) zc_Book rfl rfl ?_
  refine xg_step rfl rfl (fun k => rfl) ?_
  refine zg_aald rfl (zha (by decide)) zc_counters (by decide) (by decide) ⟨by omega, by omega⟩ (if_pos (by omega)) ?_
  refine xg_get rfl rfl (zha (by omega)) (zc_Counter (by omega)) rfl rfl ?_
  refine zg_iret rfl rfl zfitI ?_
  rfl
set_option maxRecDepth 10000 in
theorem zr_7 {d : Nat} {A B : ZM} (hA : zRg A) {p : Int} {k : Int} {w : Int} (hp : 0 ≤ p ∧ p < 3) (hk : zrg k) (hw : zrg w) (hc : 0 ≤ A (44 + 2 * p) 1 ∧ A (44 + 2 * p) 1 ≤ 100) : XR (d + 3) 7 [.ref 8, zci p, zci k, zci w] (zhp A B) (some (zci (if (1 ≤ k ∧ k ≤ A (44 + 2 * p) 1) ∧ 0 ≤ w ∧ w < 5 then A (45 + 2 * p) (k * 5 + w) else -1)), zhp A B) := by
  refine XR.of (Nat.le_of_ble_eq_true rfl) rfl ?_
  refine xg_step rfl rfl (fun k => rfl) ?_
  refine xg_get rfl rfl (zha (by decide)) zc_Book rfl rfl ?_
  refine xg_step rfl rfl (fun k => rfl) ?_
  refine zg_aald rfl (zha (by decide)) zc_counters (by decide) (by decide) ⟨by omega, by omega⟩ (if_pos (by omega)) ?_
  refine xg_step rfl rfl (fun k => rfl) ?_
  refine xg_step rfl rfl (fun k => rfl) ?_
  refine zg_cvi rfl rfl rfl (Nat.le_of_ble_eq_true rfl) (zha (by omega)) (zc_Counter (by omega)) rfl rfl (zr_20 (by omega) hA (by first | assumption | exact hA _ _ | exact hB _ _ | exact zrg_max (by assumption) (hA _ _) | (constructor <;> omega)) (by first | assumption | exact hA _ _ | exact hB _ _ | exact zrg_max (by assumption) (hA _ _) | (constructor <;> omega)) (by omega)) ?_
  refine zg_iret rfl rfl zfitI ?_
  rfl
set_option maxRecDepth 10000 in
theorem zr_8 {d : Nat} {A B : ZM} (hA : zRg A) {v : Int} (hv : 0 ≤ v ∧ v < 31) : XR (d + 1) 8 [.ref 8, zci v] (zhp A B) (some (zci (A 10 v)), zhp A B) := by
  refine XR.of (Nat.le_of_ble_eq_true rfl) rfl ?_
  refine xg_step rfl rfl (fun k => rfl) ?_
  refine xg_get rfl rfl (zha (by decide)) zc_Book rfl rfl ?_
  refine xg_step rfl rfl (fun k => rfl) ?_
  refine zg_ald (.inl ⟨rfl, rfl⟩) (zha (by decide)) zc_openings (by decide) ⟨by omega, by omega⟩ rfl ?_
  refine zg_iret rfl rfl zfitI ?_
  rfl
set_option maxRecDepth 10000 in
theorem zr_16 {d : Nat} {A B : ZM} {s : Int} (hs : 0 ≤ s ∧ s < 3) (hA : zRg A) {v : Int} (hv : 0 ≤ v ∧ v < 31) : XR (d + 1) 16 [.ref (63 + 17 * s.toNat), zci v] (zhp A B) (some (zci (zb2 (¬ A (65 + 17 * s) v = 0))), zhp A B) := by
  refine XR.of (Nat.le_of_ble_eq_true rfl) rfl ?_
  refine xg_step rfl rfl (fun k => rfl) ?_
  refine xg_get rfl rfl (zha (by omega)) (zc_Changes hs) rfl rfl ?_
  refine xg_step rfl rfl (fun k => rfl) ?_
  refine zg_ald (.inl ⟨rfl, rfl⟩) (zha (by omega)) (zc_second hs) (by decide) ⟨by omega, by omega⟩ rfl ?_
  refine zg_eq0 rfl rfl (fun x k => rfl) (by first | assumption | exact hA _ _ | exact hB _ _ | exact zrg_max (by assumption) (hA _ _) | (constructor <;> omega)) (fun hc => ?_) (fun hc => ?_)
  ·
    refine xg_step rfl rfl (fun k => rfl) ?_
    refine zg_iret rfl rfl (zfitZ (by omega)) ?_
    exact zl0 (by omega)
  ·
    refine xg_step rfl rfl (fun k => rfl) ?_
    refine xg_step rfl rfl (fun k => rfl) ?_
    refine zg_iret rfl rfl (zfitZ (by omega)) ?_
    exact zl1 (by omega)
set_option maxRecDepth 10000 in
theorem zr_29 {d : Nat} {A B : ZM} {s : Int} (hs : 0 ≤ s ∧ s < 3) (hA : zRg A) {p : Int} {k : Int} (hp : 0 ≤ p ∧ p < 3) (hk : zrg k) : XR (d + 1) 29 [.ref (57 + 17 * s.toNat), zci p, zci k] (zhp A B) (none, zhp (if 1 ≤ k ∧ k < 101 then zup A (58 + 17 * s) (p * 101 + k) 1 else A) B) := by
  refine XR.of (Nat.le_of_ble_eq_true rfl) rfl ?_
  refine xg_step rfl rfl (fun k => rfl) ?_
  refine xg_step rfl rfl (fun k => rfl) ?_
  refine zg_lt rfl rfl (fun x y k => rfl) (by first | assumption | exact hA _ _ | exact hB _ _ | exact zrg_max (by assumption) (hA _ _) | (constructor <;> omega)) (by first | assumption | exact hA _ _ | exact hB _ _ | exact zrg_max (by assumption) (hA _ _) | (constructor <;> omega)) (fun hc => ?_) (fun hc => ?_)
  ·
    refine zg_ret rfl rfl ?_
    first | exact zmt (by omega) | exact zmf (by omega) | (rw [if_pos (by omega), zup_ne (by omega)])
  ·
    refine xg_step rfl rfl (fun k => rfl) ?_
    refine zg_bi rfl (by decide) ?_
    refine zg_lt rfl rfl (fun x y k => rfl) (by first | assumption | exact hA _ _ | exact hB _ _ | exact zrg_max (by assumption) (hA _ _) | (constructor <;> omega)) (by first | assumption | exact hA _ _ | exact hB _ _ | exact zrg_max (by assumption) (hA _ _) | (constructor <;> omega)) (fun hc => ?_) (fun hc => ?_)
    ·
      refine xg_step rfl rfl (fun k => rfl) ?_
      refine xg_get rfl rfl (zha (by omega)) (zc_Inbox hs) rfl rfl ?_
      refine xg_step rfl rfl (fun k => rfl) ?_
      refine zg_bi rfl (by decide) ?_
      refine zg_mul rfl ?_
      refine xg_step rfl rfl (fun k => rfl) ?_
      refine zg_add rfl ?_
      refine xg_step rfl rfl (fun k => rfl) ?_
      refine zg_ast (.inr ⟨rfl, rfl, by omega⟩) (zha (by omega)) (zc_brought hs) (by decide) ⟨by omega, by omega⟩ (zhwA (by omega) (zw_brought hs)) ?_
      refine zg_ret rfl rfl ?_
      first | exact zmt (by omega) | exact zmf (by omega) | (rw [if_pos (by omega), zup_ne (by omega)])
    ·
      refine zg_ret rfl rfl ?_
      first | exact zmt (by omega) | exact zmf (by omega) | (rw [if_pos (by omega), zup_ne (by omega)])
set_option maxRecDepth 10000 in
theorem zr_30 {d : Nat} {A B : ZM} {s : Int} (hs : 0 ≤ s ∧ s < 3) (hA : zRg A) {p : Int} (hp : 0 ≤ p ∧ p < 3) (hn : 0 ≤ A (59 + 17 * s) p) : XR (d + 1) 30 [.ref (57 + 17 * s.toNat), zci p] (zhp A B) (some (zci (zb2 (A (59 + 17 * s) p < 101 ∧ ¬ A (58 + 17 * s) (p * 101 + A (59 + 17 * s) p) = 0))), zhp A B) := by
  refine XR.of (Nat.le_of_ble_eq_true rfl) rfl ?_
  refine xg_step rfl rfl (fun k => rfl) ?_
  refine xg_get rfl rfl (zha (by omega)) (zc_Inbox hs) rfl rfl ?_
  refine xg_step rfl rfl (fun k => rfl) ?_
  refine zg_ald (.inl ⟨rfl, rfl⟩) (zha (by omega)) (zc_next hs) (by decide) ⟨by omega, by omega⟩ rfl ?_
  refine zg_bi rfl (by decide) ?_
  refine zg_lt rfl rfl (fun x y k => rfl) (by first | assumption | exact hA _ _ | exact hB _ _ | exact zrg_max (by assumption) (hA _ _) | (constructor <;> omega)) (by first | assumption | exact hA _ _ | exact hB _ _ | exact zrg_max (by assumption) (hA _ _) | (constructor <;> omega)) (fun hc => ?_) (fun hc => ?_)
  ·
    refine xg_step rfl rfl (fun k => rfl) ?_
    refine xg_get rfl rfl (zha (by omega)) (zc_Inbox hs) rfl rfl ?_
    refine xg_step rfl rfl (fun k => rfl) ?_
    refine zg_bi rfl (by decide) ?_
    refine zg_mul rfl ?_
    refine xg_step rfl rfl (fun k => rfl) ?_
    refine xg_get rfl rfl (zha (by omega)) (zc_Inbox hs) rfl rfl ?_
    refine xg_step rfl rfl (fun k => rfl) ?_
    refine zg_ald (.inl ⟨rfl, rfl⟩) (zha (by omega)) (zc_next hs) (by decide) ⟨by omega, by omega⟩ rfl ?_
    refine zg_add rfl ?_
    refine zg_ald (.inr ⟨rfl, rfl⟩) (zha (by omega)) (zc_brought hs) (by decide) ⟨by omega, by omega⟩ rfl ?_
    refine zg_eq0 rfl rfl (fun x k => rfl) (by first | assumption | exact hA _ _ | exact hB _ _ | exact zrg_max (by assumption) (hA _ _) | (constructor <;> omega)) (fun hc => ?_) (fun hc => ?_)
    ·
      refine xg_step rfl rfl (fun k => rfl) ?_
      refine zg_iret rfl rfl (zfitZ (by omega)) ?_
      exact zl0 (by omega)
    ·
      refine xg_step rfl rfl (fun k => rfl) ?_
      refine xg_step rfl rfl (fun k => rfl) ?_
      refine zg_iret rfl rfl (zfitZ (by omega)) ?_
      exact zl1 (by omega)
  ·
    refine xg_step rfl rfl (fun k => rfl) ?_
    refine zg_iret rfl rfl (zfitZ (by omega)) ?_
    exact zl0 (by omega)
set_option maxRecDepth 10000 in
theorem zr_31 {d : Nat} {A B : ZM} {s : Int} (hs : 0 ≤ s ∧ s < 3) (hA : zRg A) {p : Int} (hp : 0 ≤ p ∧ p < 3) : XR (d + 1) 31 [.ref (57 + 17 * s.toNat), zci p] (zhp A B) (some (zci (A (59 + 17 * s) p)), zhp A B) := by
  refine XR.of (Nat.le_of_ble_eq_true rfl) rfl ?_
  refine xg_step rfl rfl (fun k => rfl) ?_
  refine xg_get rfl rfl (zha (by omega)) (zc_Inbox hs) rfl rfl ?_
  refine xg_step rfl rfl (fun k => rfl) ?_
  refine zg_ald (.inl ⟨rfl, rfl⟩) (zha (by omega)) (zc_next hs) (by decide) ⟨by omega, by omega⟩ rfl ?_
  refine zg_iret rfl rfl zfitI ?_
  rfl
set_option maxRecDepth 10000 in
theorem zr_32 {d : Nat} {A B : ZM} {s : Int} (hs : 0 ≤ s ∧ s < 3) (hA : zRg A) {p : Int} (hp : 0 ≤ p ∧ p < 3) : XR (d + 1) 32 [.ref (57 + 17 * s.toNat), zci p] (zhp A B) (none, zhp (zup A (59 + 17 * s) p (A (59 + 17 * s) p + 1)) B) := by
  refine XR.of (Nat.le_of_ble_eq_true rfl) rfl ?_
  refine xg_step rfl rfl (fun k => rfl) ?_
  refine xg_get rfl rfl (zha (by omega)) (zc_Inbox hs) rfl rfl ?_
  refine xg_step rfl rfl (fun k => rfl) ?_
  refine xg_step rfl rfl (fun k => rfl) ?_
  refine zg_ald (.inl ⟨rfl, rfl⟩) (zha (by omega)) (zc_next hs) (by decide) ⟨by omega, by omega⟩ rfl ?_
  refine xg_step rfl rfl (fun k => rfl) ?_
  refine zg_add rfl ?_
  refine zg_ast (.inl ⟨rfl, rfl⟩) (zha (by omega)) (zc_next hs) (by decide) ⟨by omega, by omega⟩ (zhwA (by omega) (zw_next hs)) ?_
  refine zg_ret rfl rfl ?_
  rfl
set_option maxRecDepth 10000 in
theorem zr_34 {d : Nat} {A B : ZM} (hA : zRg A)   : XR (d + 1) 34 [.ref 1] (zhp A B) (some (zci (zb2 (60 ≤ A 1 6))), zhp A B) := by
  refine XR.of (Nat.le_of_ble_eq_true rfl) rfl ?_
  refine xg_step rfl rfl (fun k => rfl) ?_
  refine xg_get rfl rfl (zha (by decide)) zc_Requests rfl rfl ?_
  refine zg_bi rfl (by decide) ?_
  refine zg_lt rfl rfl (fun x y k => rfl) (by first | assumption | exact hA _ _ | exact hB _ _ | exact zrg_max (by assumption) (hA _ _) | (constructor <;> omega)) (by first | assumption | exact hA _ _ | exact hB _ _ | exact zrg_max (by assumption) (hA _ _) | (constructor <;> omega)) (fun hc => ?_) (fun hc => ?_)
  ·
    refine xg_step rfl rfl (fun k => rfl) ?_
    refine zg_iret rfl rfl (zfitZ (by omega)) ?_
    exact zl0 (by omega)
  ·
    refine xg_step rfl rfl (fun k => rfl) ?_
    refine xg_step rfl rfl (fun k => rfl) ?_
    refine zg_iret rfl rfl (zfitZ (by omega)) ?_
    exact zl1 (by omega)
set_option maxRecDepth 10000 in
theorem zr_35 {d : Nat} {A B : ZM} (hA : zRg A) {r : Int} (hr : zrg r) : XR (d + 1) 35 [.ref 1, zci r] (zhp A B) (some (zci (zb2 (0 ≤ r ∧ r < A 1 6))), zhp A B) := by
  refine XR.of (Nat.le_of_ble_eq_true rfl) rfl ?_
  refine xg_step rfl rfl (fun k => rfl) ?_
  refine zg_lt0 rfl rfl (fun x k => rfl) (by first | assumption | exact hA _ _ | exact hB _ _ | exact zrg_max (by assumption) (hA _ _) | (constructor <;> omega)) (fun hc => ?_) (fun hc => ?_)
  ·
    refine xg_step rfl rfl (fun k => rfl) ?_
    refine zg_iret rfl rfl (zfitZ (by omega)) ?_
    exact zl0 (by omega)
  ·
    refine xg_step rfl rfl (fun k => rfl) ?_
    refine xg_step rfl rfl (fun k => rfl) ?_
    refine xg_get rfl rfl (zha (by decide)) zc_Requests rfl rfl ?_
    refine zg_lt rfl rfl (fun x y k => rfl) (by first | assumption | exact hA _ _ | exact hB _ _ | exact zrg_max (by assumption) (hA _ _) | (constructor <;> omega)) (by first | assumption | exact hA _ _ | exact hB _ _ | exact zrg_max (by assumption) (hA _ _) | (constructor <;> omega)) (fun hc => ?_) (fun hc => ?_)
    ·
      refine xg_step rfl rfl (fun k => rfl) ?_
      refine xg_step rfl rfl (fun k => rfl) ?_
      refine zg_iret rfl rfl (zfitZ (by omega)) ?_
      exact zl1 (by omega)
    ·
      refine xg_step rfl rfl (fun k => rfl) ?_
      refine zg_iret rfl rfl (zfitZ (by omega)) ?_
      exact zl0 (by omega)
set_option maxRecDepth 10000 in
theorem zr_37 {d : Nat} {A B : ZM} (hA : zRg A) {r : Int} (hr : zrg r) (hq : A 1 6 ≤ 60) : XR (d + 2) 37 [.ref 1, zci r] (zhp A B) (some (zci (if 0 ≤ r ∧ r < A 1 6 then A 2 r else -1)), zhp A B) := by
  refine XR.of (Nat.le_of_ble_eq_true rfl) rfl ?_
  refine xg_step rfl rfl (fun k => rfl) ?_
  refine xg_step rfl rfl (fun k => rfl) ?_
  refine zg_cvb rfl rfl rfl (Nat.le_of_ble_eq_true rfl) (zha (by decide)) zc_Requests rfl rfl (zr_35 hA (by first | assumption | exact hA _ _ | exact hB _ _ | exact zrg_max (by assumption) (hA _ _) | (constructor <;> omega))) (fun hc => ?_) (fun hc => ?_)
  ·
    refine xg_step rfl rfl (fun k => rfl) ?_
    refine xg_step rfl rfl (fun k => rfl) ?_
    refine xg_get rfl rfl (zha (by decide)) zc_Requests rfl rfl ?_
    refine xg_step rfl rfl (fun k => rfl) ?_
    refine zg_ald (.inl ⟨rfl, rfl⟩) (zha (by decide)) zc_client (by decide) ⟨by omega, by omega⟩ rfl ?_
    refine xg_step rfl rfl (fun k => rfl) ?_
    refine zg_iret rfl rfl zfitI ?_
    first | exact zli (by omega) | exact zle (by omega)
  ·
    refine xg_step rfl rfl (fun k => rfl) ?_
    refine xg_step rfl rfl (fun k => rfl) ?_
    refine zg_iret rfl rfl zfitI ?_
    first | exact zli (by omega) | exact zle (by omega)
set_option maxRecDepth 10000 in
theorem zr_38 {d : Nat} {A B : ZM} (hA : zRg A) {r : Int} (hr : zrg r) (hq : A 1 6 ≤ 60) : XR (d + 2) 38 [.ref 1, zci r] (zhp A B) (some (zci (if 0 ≤ r ∧ r < A 1 6 then A 3 r else -1)), zhp A B) := by
  refine XR.of (Nat.le_of_ble_eq_true rfl) rfl ?_
  refine xg_step rfl rfl (fun k => rfl) ?_
  refine xg_step rfl rfl (fun k => rfl) ?_
  refine zg_cvb rfl rfl rfl (Nat.le_of_ble_eq_true rfl) (zha (by decide)) zc_Requests rfl rfl (zr_35 hA (by first | assumption | exact hA _ _ | exact hB _ _ | exact zrg_max (by assumption) (hA _ _) | (constructor <;> omega))) (fun hc => ?_) (fun hc => ?_)
  ·
    refine xg_step rfl rfl (fun k => rfl) ?_
    refine xg_step rfl rfl (fun k => rfl) ?_
    refine xg_get rfl rfl (zha (by decide)) zc_Requests rfl rfl ?_
    refine xg_step rfl rfl (fun k => rfl) ?_
    refine zg_ald (.inl ⟨rfl, rfl⟩) (zha (by decide)) zc_ownNumber (by decide) ⟨by omega, by omega⟩ rfl ?_
    refine xg_step rfl rfl (fun k => rfl) ?_
    refine zg_iret rfl rfl zfitI ?_
    first | exact zli (by omega) | exact zle (by omega)
  ·
    refine xg_step rfl rfl (fun k => rfl) ?_
    refine xg_step rfl rfl (fun k => rfl) ?_
    refine zg_iret rfl rfl zfitI ?_
    first | exact zli (by omega) | exact zle (by omega)
set_option maxRecDepth 10000 in
theorem zr_39 {d : Nat} {A B : ZM} (hA : zRg A) {r : Int} (hr : zrg r) (hq : A 1 6 ≤ 60) : XR (d + 2) 39 [.ref 1, zci r] (zhp A B) (some (zci (if 0 ≤ r ∧ r < A 1 6 then A 5 r else -1)), zhp A B) := by
  refine XR.of (Nat.le_of_ble_eq_true rfl) rfl ?_
  refine xg_step rfl rfl (fun k => rfl) ?_
  refine xg_step rfl rfl (fun k => rfl) ?_
  refine zg_cvb rfl rfl rfl (Nat.le_of_ble_eq_true rfl) (zha (by decide)) zc_Requests rfl rfl (zr_35 hA (by first | assumption | exact hA _ _ | exact hB _ _ | exact zrg_max (by assumption) (hA _ _) | (constructor <;> omega))) (fun hc => ?_) (fun hc => ?_)
  ·
    refine xg_step rfl rfl (fun k => rfl) ?_
    refine xg_step rfl rfl (fun k => rfl) ?_
    refine xg_get rfl rfl (zha (by decide)) zc_Requests rfl rfl ?_
    refine xg_step rfl rfl (fun k => rfl) ?_
    refine zg_ald (.inl ⟨rfl, rfl⟩) (zha (by decide)) zc_key (by decide) ⟨by omega, by omega⟩ rfl ?_
    refine xg_step rfl rfl (fun k => rfl) ?_
    refine zg_iret rfl rfl zfitI ?_
    first | exact zli (by omega) | exact zle (by omega)
  ·
    refine xg_step rfl rfl (fun k => rfl) ?_
    refine xg_step rfl rfl (fun k => rfl) ?_
    refine zg_iret rfl rfl zfitI ?_
    first | exact zli (by omega) | exact zle (by omega)
set_option maxRecDepth 10000 in
theorem zr_40 {d : Nat} {A B : ZM} (hA : zRg A) {r : Int} {h : Int} (hr : zrg r) (hq : A 1 6 ≤ 60) (hh : zrg h) : XR (d + 2) 40 [.ref 1, zci r, zci h] (zhp A B) (some (zci (if 0 ≤ r ∧ r < A 1 6 then (if A 4 r = 0 then h else if A 4 r = 1 then A 6 r else zwr (h + A 6 r)) else h)), zhp A B) := by
  refine XR.of (Nat.le_of_ble_eq_true rfl) rfl ?_
  refine xg_step rfl rfl (fun k => rfl) ?_
  refine xg_step rfl rfl (fun k => rfl) ?_
  refine zg_cvb rfl rfl rfl (Nat.le_of_ble_eq_true rfl) (zha (by decide)) zc_Requests rfl rfl (zr_35 hA (by first | assumption | exact hA _ _ | exact hB _ _ | exact zrg_max (by assumption) (hA _ _) | (constructor <;> omega))) (fun hc => ?_) (fun hc => ?_)
  ·
    refine xg_step rfl rfl (fun k => rfl) ?_
    refine xg_step rfl rfl (fun k => rfl) ?_
    refine xg_get rfl rfl (zha (by decide)) zc_Requests rfl rfl ?_
    refine xg_step rfl rfl (fun k => rfl) ?_
    refine zg_ald (.inl ⟨rfl, rfl⟩) (zha (by decide)) zc_kind (by decide) ⟨by omega, by omega⟩ rfl ?_
    refine zg_eq0 rfl rfl (fun x k => rfl) (by first | assumption | exact hA _ _ | exact hB _ _ | exact zrg_max (by assumption) (hA _ _) | (constructor <;> omega)) (fun hc => ?_) (fun hc => ?_)
    ·
      refine xg_step rfl rfl (fun k => rfl) ?_
      refine zg_iret rfl rfl zfitI ?_
      (repeat' split) <;> first | rfl | omega | rw [zci_wr]
    ·
      refine xg_step rfl rfl (fun k => rfl) ?_
      refine xg_get rfl rfl (zha (by decide)) zc_Requests rfl rfl ?_
      refine xg_step rfl rfl (fun k => rfl) ?_
      refine zg_ald (.inl ⟨rfl, rfl⟩) (zha (by decide)) zc_kind (by decide) ⟨by omega, by omega⟩ rfl ?_
      refine xg_step rfl rfl (fun k => rfl) ?_
      refine zg_eq rfl rfl (fun x y k => rfl) (by first | assumption | exact hA _ _ | exact hB _ _ | exact zrg_max (by assumption) (hA _ _) | (constructor <;> omega)) (by first | assumption | exact hA _ _ | exact hB _ _ | exact zrg_max (by assumption) (hA _ _) | (constructor <;> omega)) (fun hc => ?_) (fun hc => ?_)
      ·
        refine xg_step rfl rfl (fun k => rfl) ?_
        refine xg_get rfl rfl (zha (by decide)) zc_Requests rfl rfl ?_
        refine xg_step rfl rfl (fun k => rfl) ?_
        refine zg_ald (.inl ⟨rfl, rfl⟩) (zha (by decide)) zc_operand (by decide) ⟨by omega, by omega⟩ rfl ?_
        refine xg_step rfl rfl (fun k => rfl) ?_
        refine zg_iret rfl rfl zfitI ?_
        (repeat' split) <;> first | rfl | omega | rw [zci_wr]
      ·
        refine xg_step rfl rfl (fun k => rfl) ?_
        refine xg_step rfl rfl (fun k => rfl) ?_
        refine xg_get rfl rfl (zha (by decide)) zc_Requests rfl rfl ?_
        refine xg_step rfl rfl (fun k => rfl) ?_
        refine zg_ald (.inl ⟨rfl, rfl⟩) (zha (by decide)) zc_operand (by decide) ⟨by omega, by omega⟩ rfl ?_
        refine zg_add rfl ?_
        refine zg_iret rfl rfl zfitI ?_
        (repeat' split) <;> first | rfl | omega | rw [zci_wr]
  ·
    refine xg_step rfl rfl (fun k => rfl) ?_
    refine xg_step rfl rfl (fun k => rfl) ?_
    refine zg_iret rfl rfl zfitI ?_
    (repeat' split) <;> first | rfl | omega | rw [zci_wr]
set_option maxRecDepth 10000 in
theorem zr_41 {d : Nat} {A B : ZM} (hA : zRg A) {r : Int} {h : Int} (hr : zrg r) (hq : A 1 6 ≤ 60) (hh : zrg h) : XR (d + 2) 41 [.ref 1, zci r, zci h] (zhp A B) (some (zci (if 0 ≤ r ∧ r < A 1 6 ∧ A 4 r = 2 then zwr (h + A 6 r) else h)), zhp A B) := by
  refine XR.of (Nat.le_of_ble_eq_true rfl) rfl ?_
  refine xg_step rfl rfl (fun k => rfl) ?_
  refine xg_step rfl rfl (fun k => rfl) ?_
  refine zg_cvb rfl rfl rfl (Nat.le_of_ble_eq_true rfl) (zha (by decide)) zc_Requests rfl rfl (zr_35 hA (by first | assumption | exact hA _ _ | exact hB _ _ | exact zrg_max (by assumption) (hA _ _) | (constructor <;> omega))) (fun hc => ?_) (fun hc => ?_)
  ·
    refine xg_step rfl rfl (fun k => rfl) ?_
    refine xg_step rfl rfl (fun k => rfl) ?_
    refine xg_get rfl rfl (zha (by decide)) zc_Requests rfl rfl ?_
    refine xg_step rfl rfl (fun k => rfl) ?_
    refine zg_ald (.inl ⟨rfl, rfl⟩) (zha (by decide)) zc_kind (by decide) ⟨by omega, by omega⟩ rfl ?_
    refine xg_step rfl rfl (fun k => rfl) ?_
    refine zg_eq rfl rfl (fun x y k => rfl) (by first | assumption | exact hA _ _ | exact hB _ _ | exact zrg_max (by assumption) (hA _ _) | (constructor <;> omega)) (by first | assumption | exact hA _ _ | exact hB _ _ | exact zrg_max (by assumption) (hA _ _) | (constructor <;> omega)) (fun hc => ?_) (fun hc => ?_)
    ·
      refine xg_step rfl rfl (fun k => rfl) ?_
      refine xg_step rfl rfl (fun k => rfl) ?_
      refine xg_get rfl rfl (zha (by decide)) zc_Requests rfl rfl ?_
      refine xg_step rfl rfl (fun k => rfl) ?_
      refine zg_ald (.inl ⟨rfl, rfl⟩) (zha (by decide)) zc_operand (by decide) ⟨by omega, by omega⟩ rfl ?_
      refine zg_add rfl ?_
      refine xg_step rfl rfl (fun k => rfl) ?_
      refine zg_iret rfl rfl zfitI ?_
      (repeat' split) <;> first | rfl | omega | rw [zci_wr]
    ·
      refine xg_step rfl rfl (fun k => rfl) ?_
      refine zg_iret rfl rfl zfitI ?_
      (repeat' split) <;> first | rfl | omega | rw [zci_wr]
  ·
    refine xg_step rfl rfl (fun k => rfl) ?_
    refine xg_step rfl rfl (fun k => rfl) ?_
    refine zg_iret rfl rfl zfitI ?_
    (repeat' split) <;> first | rfl | omega | rw [zci_wr]
set_option maxRecDepth 10000 in
theorem zr_43 {d : Nat} {A B : ZM} {s : Int} (hs : 0 ≤ s ∧ s < 3) (hA : zRg A)   : XR (d + 1) 43 [.ref (56 + 17 * s.toNat)] (zhp A B) (some (zci (A (56 + 17 * s) 7)), zhp A B) := by
  refine XR.of (Nat.le_of_ble_eq_true rfl) rfl ?_
  refine xg_step rfl rfl (fun k => rfl) ?_
  refine xg_get rfl rfl (zha (by omega)) (zc_Server hs) rfl rfl ?_
  refine zg_iret rfl rfl zfitI ?_
  rfl
set_option maxRecDepth 10000 in
theorem zr_44 {d : Nat} {A B : ZM} {s : Int} (hs : 0 ≤ s ∧ s < 3) (hA : zRg A)  (hz : A (56 + 17 * s) 8 = 0 ∨ A (56 + 17 * s) 8 = 1) : XR (d + 1) 44 [.ref (56 + 17 * s.toNat)] (zhp A B) (some (zci (A (56 + 17 * s) 8)), zhp A B) := by
  refine XR.of (Nat.le_of_ble_eq_true rfl) rfl ?_
  refine xg_step rfl rfl (fun k => rfl) ?_
  refine xg_get rfl rfl (zha (by omega)) (zc_Server hs) rfl rfl ?_
  refine zg_iret rfl rfl (zfitZ (by omega)) ?_
  rfl
set_option maxRecDepth 10000 in
theorem zr_45 {d : Nat} {A B : ZM} {s : Int} (hs : 0 ≤ s ∧ s < 3) (hA : zRg A)  (hz : A (56 + 17 * s) 9 = 0 ∨ A (56 + 17 * s) 9 = 1) : XR (d + 1) 45 [.ref (56 + 17 * s.toNat)] (zhp A B) (some (zci (A (56 + 17 * s) 9)), zhp A B) := by
  refine XR.of (Nat.le_of_ble_eq_true rfl) rfl ?_
  refine xg_step rfl rfl (fun k => rfl) ?_
  refine xg_get rfl rfl (zha (by omega)) (zc_Server hs) rfl rfl ?_
  refine zg_iret rfl rfl (zfitZ (by omega)) ?_
  rfl
set_option maxRecDepth 10000 in
theorem zr_46 {d : Nat} {A B : ZM} {s : Int} (hs : 0 ≤ s ∧ s < 3) : XR (d + 1) 46 [.ref (56 + 17 * s.toNat)] (zhp A B) (some (.ref (67 + 17 * s.toNat)), zhp A B) := by
  refine XR.of (Nat.le_of_ble_eq_true rfl) rfl ?_
  refine xg_step rfl rfl (fun k => rfl) ?_
  refine xg_get rfl rfl (zha (by omega)) (zc_Server hs) rfl rfl ?_
  exact zg_aret rfl rfl rfl rfl
set_option maxRecDepth 10000 in
theorem zr_47 {d : Nat} {A B : ZM} {s : Int} (hs : 0 ≤ s ∧ s < 3) (hA : zRg A)  (hi : A (56 + 17 * s) 0 = s) : XR (d + 1) 47 [.ref (56 + 17 * s.toNat)] (zhp A B) (some (zci (A (66 + 17 * s) s)), zhp A B) := by
  refine XR.of (Nat.le_of_ble_eq_true rfl) rfl ?_
  refine xg_step rfl rfl (fun k => rfl) ?_
  refine xg_get rfl rfl (zha (by omega)) (zc_Server hs) rfl rfl ?_
  refine xg_step rfl rfl (fun k => rfl) ?_
  refine xg_get rfl rfl (zha (by omega)) (zc_Server hs) rfl rfl ?_
  refine zg_ald (.inl ⟨rfl, rfl⟩) (zha (by omega)) (zc_asked hs) (by decide) ⟨by omega, by omega⟩ rfl ?_
  refine zg_iret rfl rfl zfitI ?_
  rw [hi]
set_option maxRecDepth 10000 in
theorem zr_48 {d : Nat} {A B : ZM} {s : Int} (hs : 0 ≤ s ∧ s < 3) (hA : zRg A) {p : Int} (hp : 0 ≤ p ∧ p < 3) : XR (d + 2) 48 [.ref (56 + 17 * s.toNat), zci p] (zhp A B) (some (zci (A (59 + 17 * s) p)), zhp A B) := by
  refine XR.of (Nat.le_of_ble_eq_true rfl) rfl ?_
  refine xg_step rfl rfl (fun k => rfl) ?_
  refine zg_lt0 rfl rfl (fun x k => rfl) (by first | assumption | exact hA _ _ | exact hB _ _ | exact zrg_max (by assumption) (hA _ _) | (constructor <;> omega)) (fun hc => ?_) (fun hc => ?_)
  ·
    refine xg_step rfl rfl (fun k => rfl) ?_
    refine zg_iret rfl rfl zfitI ?_
    first | rfl | exact (by omega : False).elim
  ·
    refine xg_step rfl rfl (fun k => rfl) ?_
    refine xg_step rfl rfl (fun k => rfl) ?_
    refine zg_lt rfl rfl (fun x y k => rfl) (by first | assumption | exact hA _ _ | exact hB _ _ | exact zrg_max (by assumption) (hA _ _) | (constructor <;> omega)) (by first | assumption | exact hA _ _ | exact hB _ _ | exact zrg_max (by assumption) (hA _ _) | (constructor <;> omega)) (fun hc => ?_) (fun hc => ?_)
    ·
      refine xg_step rfl rfl (fun k => rfl) ?_
      refine xg_get rfl rfl (zha (by omega)) (zc_Server hs) rfl rfl ?_
      refine xg_step rfl rfl (fun k => rfl) ?_
      refine zg_cvi rfl rfl rfl (Nat.le_of_ble_eq_true rfl) (zha (by omega)) (zc_Inbox hs) rfl rfl (zr_31 hs hA hp) ?_
      refine xg_step rfl rfl (fun k => rfl) ?_
      refine zg_iret rfl rfl zfitI ?_
      first | rfl | exact (by omega : False).elim
    ·
      refine xg_step rfl rfl (fun k => rfl) ?_
      refine zg_iret rfl rfl zfitI ?_
      first | rfl | exact (by omega : False).elim
set_option maxRecDepth 10000 in
theorem zr_49 {d : Nat} {A B : ZM} {s : Int} (hs : 0 ≤ s ∧ s < 3) (hA : zRg A)   : XR (d + 1) 49 [.ref (56 + 17 * s.toNat)] (zhp A B) (none, zhp (zup A (56 + 17 * s) 9 1) B) := by
  refine XR.of (Nat.le_of_ble_eq_true rfl) rfl ?_
  refine xg_step rfl rfl (fun k => rfl) ?_
  refine xg_step rfl rfl (fun k => rfl) ?_
  refine zg_put rfl rfl (zha (by omega)) (zc_Server hs) (Nat.le_of_ble_eq_true rfl) rfl (zfitZ (by omega)) rfl (zhwA (by omega) (zw_Server_9 hs)) ?_
  refine zg_ret rfl rfl ?_
  rfl
set_option maxRecDepth 10000 in
theorem zr_50 {d : Nat} {A B : ZM} {s : Int} (hs : 0 ≤ s ∧ s < 3) (hA : zRg A) {w : Int} (hi : A (56 + 17 * s) 0 = s) : XR (d + 1) 50 [.ref (56 + 17 * s.toNat), zci w] (zhp A B) (none, zhp (zup A (66 + 17 * s) s w) B) := by
  refine XR.of (Nat.le_of_ble_eq_true rfl) rfl ?_
  refine xg_step rfl rfl (fun k => rfl) ?_
  refine xg_get rfl rfl (zha (by omega)) (zc_Server hs) rfl rfl ?_
  refine xg_step rfl rfl (fun k => rfl) ?_
  refine xg_get rfl rfl (zha (by omega)) (zc_Server hs) rfl rfl ?_
  refine xg_step rfl rfl (fun k => rfl) ?_
  refine zg_ast (.inl ⟨rfl, rfl⟩) (zha (by omega)) (zc_asked hs) (by decide) ⟨by omega, by omega⟩ (zhwA (by omega) (zw_asked hs)) ?_
  refine zg_ret rfl rfl ?_
  rw [hi]
set_option maxRecDepth 10000 in
theorem zr_51 {d : Nat} {A B : ZM} {s : Int} (hs : 0 ≤ s ∧ s < 3) (hA : zRg A) {p : Int} {w : Int} (hp : 0 ≤ p ∧ p < 3) (hw : zrg w) : XR (d + 1) 51 [.ref (56 + 17 * s.toNat), zci p, zci w] (zhp A B) (none, zhp (zup A (66 + 17 * s) p (max (A (66 + 17 * s) p) w)) B) := by
  refine XR.of (Nat.le_of_ble_eq_true rfl) rfl ?_
  refine xg_step rfl rfl (fun k => rfl) ?_
  refine xg_get rfl rfl (zha (by omega)) (zc_Server hs) rfl rfl ?_
  refine xg_step rfl rfl (fun k => rfl) ?_
  refine xg_step rfl rfl (fun k => rfl) ?_
  refine xg_get rfl rfl (zha (by omega)) (zc_Server hs) rfl rfl ?_
  refine xg_step rfl rfl (fun k => rfl) ?_
  refine zg_ald (.inl ⟨rfl, rfl⟩) (zha (by omega)) (zc_asked hs) (by decide) ⟨by omega, by omega⟩ rfl ?_
  refine xg_step rfl rfl (fun k => rfl) ?_
  refine zg_max rfl rfl (Nat.le_of_ble_eq_true rfl) (by first | assumption | exact hA _ _ | exact hB _ _ | exact zrg_max (by assumption) (hA _ _) | (constructor <;> omega)) (by first | assumption | exact hA _ _ | exact hB _ _ | exact zrg_max (by assumption) (hA _ _) | (constructor <;> omega)) ?_
  refine zg_ast (.inl ⟨rfl, rfl⟩) (zha (by omega)) (zc_asked hs) (by decide) ⟨by omega, by omega⟩ (zhwA (by omega) (zw_asked hs)) ?_
  refine zg_ret rfl rfl ?_
  rfl
set_option maxRecDepth 10000 in
theorem zr_54 {d : Nat} {A B : ZM} {s : Int} (hs : 0 ≤ s ∧ s < 3) (hA : zRg A) {p : Int} {k : Int} (hp : 0 ≤ p ∧ p < 3) (hk : zrg k) : XR (d + 2) 54 [.ref (56 + 17 * s.toNat), zci p, zci k] (zhp A B) (none, zhp (if 1 ≤ k ∧ k < 101 then zup A (58 + 17 * s) (p * 101 + k) 1 else A) B) := by
  refine XR.of (Nat.le_of_ble_eq_true rfl) rfl ?_
  refine xg_step rfl rfl (fun k => rfl) ?_
  refine xg_get rfl rfl (zha (by omega)) (zc_Server hs) rfl rfl ?_
  refine xg_step rfl rfl (fun k => rfl) ?_
  refine xg_step rfl rfl (fun k => rfl) ?_
  refine zg_cvv rfl rfl rfl (Nat.le_of_ble_eq_true rfl) (zha (by omega)) (zc_Inbox hs) rfl rfl (zr_29 hs hA hp (by first | assumption | exact hA _ _ | exact hB _ _ | exact zrg_max (by assumption) (hA _ _) | (constructor <;> omega))) ?_
  refine zg_ret rfl rfl ?_
  rfl
set_option maxRecDepth 10000 in
theorem zr_62 {d : Nat} {A B : ZM} {s : Int} (hs : 0 ≤ s ∧ s < 3) (hA : zRg A)   : XR (d + 1) 62 [.ref (67 + 17 * s.toNat)] (zhp A B) (some (zci (A (67 + 17 * s) 6)), zhp A B) := by
  refine XR.of (Nat.le_of_ble_eq_true rfl) rfl ?_
  refine xg_step rfl rfl (fun k => rfl) ?_
  refine xg_get rfl rfl (zha (by omega)) (zc_Store hs) rfl rfl ?_
  refine zg_iret rfl rfl zfitI ?_
  rfl
set_option maxRecDepth 10000 in
theorem zr_63 {d : Nat} {A B : ZM} {s : Int} (hs : 0 ≤ s ∧ s < 3) (hA : zRg A) {k : Int} (hk : zrg k) (hd : 0 ≤ A (67 + 17 * s) 6 ∧ A (67 + 17 * s) 6 ≤ 300) : XR (d + 1) 63 [.ref (67 + 17 * s.toNat), zci k] (zhp A B) (some (zci (if 0 ≤ k ∧ k < A (67 + 17 * s) 6 then A (70 + 17 * s) k else -1)), zhp A B) := by
  refine XR.of (Nat.le_of_ble_eq_true rfl) rfl ?_
  refine xg_step rfl rfl (fun k => rfl) ?_
  refine zg_lt0 rfl rfl (fun x k => rfl) (by first | assumption | exact hA _ _ | exact hB _ _ | exact zrg_max (by assumption) (hA _ _) | (constructor <;> omega)) (fun hc => ?_) (fun hc => ?_)
  ·
    refine xg_step rfl rfl (fun k => rfl) ?_
    refine zg_iret rfl rfl zfitI ?_
    first | exact zli (by omega) | exact zle (by omega)
  ·
    refine xg_step rfl rfl (fun k => rfl) ?_
    refine xg_step rfl rfl (fun k => rfl) ?_
    refine xg_get rfl rfl (zha (by omega)) (zc_Store hs) rfl rfl ?_
    refine zg_lt rfl rfl (fun x y k => rfl) (by first | assumption | exact hA _ _ | exact hB _ _ | exact zrg_max (by assumption) (hA _ _) | (constructor <;> omega)) (by first | assumption | exact hA _ _ | exact hB _ _ | exact zrg_max (by assumption) (hA _ _) | (constructor <;> omega)) (fun hc => ?_) (fun hc => ?_)
    ·
      refine xg_step rfl rfl (fun k => rfl) ?_
      refine xg_get rfl rfl (zha (by omega)) (zc_Store hs) rfl rfl ?_
      refine xg_step rfl rfl (fun k => rfl) ?_
      refine zg_ald (.inl ⟨rfl, rfl⟩) (zha (by omega)) (zc_done hs) (by decide) ⟨by omega, by omega⟩ rfl ?_
      refine xg_step rfl rfl (fun k => rfl) ?_
      refine zg_iret rfl rfl zfitI ?_
      first | exact zli (by omega) | exact zle (by omega)
    ·
      refine xg_step rfl rfl (fun k => rfl) ?_
      refine zg_iret rfl rfl zfitI ?_
      first | exact zli (by omega) | exact zle (by omega)
set_option maxRecDepth 10000 in
theorem zr_64 {d : Nat} {A B : ZM} {s : Int} (hs : 0 ≤ s ∧ s < 3) (hA : zRg A) {k : Int} (hk : zrg k) : XR (d + 1) 64 [.ref (67 + 17 * s.toNat), zci k] (zhp A B) (some (zci (if 0 ≤ k ∧ k < 4 then A (68 + 17 * s) k else 0)), zhp A B) := by
  refine XR.of (Nat.le_of_ble_eq_true rfl) rfl ?_
  refine xg_step rfl rfl (fun k => rfl) ?_
  refine zg_lt0 rfl rfl (fun x k => rfl) (by first | assumption | exact hA _ _ | exact hB _ _ | exact zrg_max (by assumption) (hA _ _) | (constructor <;> omega)) (fun hc => ?_) (fun hc => ?_)
  ·
    refine xg_step rfl rfl (fun k => rfl) ?_
    refine zg_iret rfl rfl zfitI ?_
    first | exact zli (by omega) | exact zle (by omega)
  ·
    refine xg_step rfl rfl (fun k => rfl) ?_
    refine xg_step rfl rfl (fun k => rfl) ?_
    refine zg_lt rfl rfl (fun x y k => rfl) (by first | assumption | exact hA _ _ | exact hB _ _ | exact zrg_max (by assumption) (hA _ _) | (constructor <;> omega)) (by first | assumption | exact hA _ _ | exact hB _ _ | exact zrg_max (by assumption) (hA _ _) | (constructor <;> omega)) (fun hc => ?_) (fun hc => ?_)
    ·
      refine xg_step rfl rfl (fun k => rfl) ?_
      refine xg_get rfl rfl (zha (by omega)) (zc_Store hs) rfl rfl ?_
      refine xg_step rfl rfl (fun k => rfl) ?_
      refine zg_ald (.inl ⟨rfl, rfl⟩) (zha (by omega)) (zc_values hs) (by decide) ⟨by omega, by omega⟩ rfl ?_
      refine xg_step rfl rfl (fun k => rfl) ?_
      refine zg_iret rfl rfl zfitI ?_
      first | exact zli (by omega) | exact zle (by omega)
    ·
      refine xg_step rfl rfl (fun k => rfl) ?_
      refine zg_iret rfl rfl zfitI ?_
      first | exact zli (by omega) | exact zle (by omega)
set_option maxRecDepth 10000 in
theorem zr_65 {d : Nat} {A B : ZM} {s : Int} (hs : 0 ≤ s ∧ s < 3) (hA : zRg A) {r : Int} (hr : zrg r) : XR (d + 1) 65 [.ref (67 + 17 * s.toNat), zci r] (zhp A B) (some (zci (zb2 ((0 ≤ r ∧ r < 60) ∧ ¬ A (71 + 17 * s) r = 0))), zhp A B) := by
  refine XR.of (Nat.le_of_ble_eq_true rfl) rfl ?_
  refine xg_step rfl rfl (fun k => rfl) ?_
  refine zg_lt0 rfl rfl (fun x k => rfl) (by first | assumption | exact hA _ _ | exact hB _ _ | exact zrg_max (by assumption) (hA _ _) | (constructor <;> omega)) (fun hc => ?_) (fun hc => ?_)
  ·
    refine xg_step rfl rfl (fun k => rfl) ?_
    refine zg_iret rfl rfl (zfitZ (by omega)) ?_
    exact zl0 (by omega)
  ·
    refine xg_step rfl rfl (fun k => rfl) ?_
    refine zg_bi rfl (by decide) ?_
    refine zg_lt rfl rfl (fun x y k => rfl) (by first | assumption | exact hA _ _ | exact hB _ _ | exact zrg_max (by assumption) (hA _ _) | (constructor <;> omega)) (by first | assumption | exact hA _ _ | exact hB _ _ | exact zrg_max (by assumption) (hA _ _) | (constructor <;> omega)) (fun hc => ?_) (fun hc => ?_)
    ·
      refine xg_step rfl rfl (fun k => rfl) ?_
      refine xg_get rfl rfl (zha (by omega)) (zc_Store hs) rfl rfl ?_
      refine xg_step rfl rfl (fun k => rfl) ?_
      refine zg_ald (.inr ⟨rfl, rfl⟩) (zha (by omega)) (zc_replied hs) (by decide) ⟨by omega, by omega⟩ rfl ?_
      refine zg_eq0 rfl rfl (fun x k => rfl) (by first | assumption | exact hA _ _ | exact hB _ _ | exact zrg_max (by assumption) (hA _ _) | (constructor <;> omega)) (fun hc => ?_) (fun hc => ?_)
      ·
        refine xg_step rfl rfl (fun k => rfl) ?_
        refine zg_iret rfl rfl (zfitZ (by omega)) ?_
        exact zl0 (by omega)
      ·
        refine xg_step rfl rfl (fun k => rfl) ?_
        refine xg_step rfl rfl (fun k => rfl) ?_
        refine zg_iret rfl rfl (zfitZ (by omega)) ?_
        exact zl1 (by omega)
    ·
      refine xg_step rfl rfl (fun k => rfl) ?_
      refine zg_iret rfl rfl (zfitZ (by omega)) ?_
      exact zl0 (by omega)
set_option maxRecDepth 10000 in
theorem zr_66 {d : Nat} {A B : ZM} {s : Int} (hs : 0 ≤ s ∧ s < 3) (hA : zRg A) {r : Int} (hr : zrg r) : XR (d + 2) 66 [.ref (67 + 17 * s.toNat), zci r] (zhp A B) (some (zci (if (0 ≤ r ∧ r < 60) ∧ ¬ A (71 + 17 * s) r = 0 then A (72 + 17 * s) r else 0)), zhp A B) := by
  refine XR.of (Nat.le_of_ble_eq_true rfl) rfl ?_
  refine xg_step rfl rfl (fun k => rfl) ?_
  refine xg_step rfl rfl (fun k => rfl) ?_
  refine zg_cvb rfl rfl rfl (Nat.le_of_ble_eq_true rfl) (zha (by omega)) (zc_Store hs) rfl rfl (zr_65 hs hA (by first | assumption | exact hA _ _ | exact hB _ _ | exact zrg_max (by assumption) (hA _ _) | (constructor <;> omega))) (fun hc => ?_) (fun hc => ?_)
  ·
    refine xg_step rfl rfl (fun k => rfl) ?_
    refine xg_step rfl rfl (fun k => rfl) ?_
    refine xg_get rfl rfl (zha (by omega)) (zc_Store hs) rfl rfl ?_
    refine xg_step rfl rfl (fun k => rfl) ?_
    refine zg_ald (.inl ⟨rfl, rfl⟩) (zha (by omega)) (zc_replies hs) (by decide) ⟨by omega, by omega⟩ rfl ?_
    refine xg_step rfl rfl (fun k => rfl) ?_
    refine zg_iret rfl rfl zfitI ?_
    first | exact zli (by omega) | exact zle (by omega)
  ·
    refine xg_step rfl rfl (fun k => rfl) ?_
    refine xg_step rfl rfl (fun k => rfl) ?_
    refine zg_iret rfl rfl zfitI ?_
    first | exact zli (by omega) | exact zle (by omega)
set_option maxRecDepth 10000 in
theorem zr_67 {d : Nat} {A B : ZM} {s : Int} (hs : 0 ≤ s ∧ s < 3) (hA : zRg A) {r : Int} {w : Int} (hr : zrg r) : XR (d + 1) 67 [.ref (67 + 17 * s.toNat), zci r, zci w] (zhp A B) (none, zhp (if 0 ≤ r ∧ r < 60 then zup (zup A (71 + 17 * s) r 1) (72 + 17 * s) r w else A) B) := by
  refine XR.of (Nat.le_of_ble_eq_true rfl) rfl ?_
  refine xg_step rfl rfl (fun k => rfl) ?_
  refine zg_lt0 rfl rfl (fun x k => rfl) (by first | assumption | exact hA _ _ | exact hB _ _ | exact zrg_max (by assumption) (hA _ _) | (constructor <;> omega)) (fun hc => ?_) (fun hc => ?_)
  ·
    refine zg_ret rfl rfl ?_
    first | exact zmt (by omega) | exact zmf (by omega) | (rw [if_pos (by omega), zup_ne (by omega)])
  ·
    refine xg_step rfl rfl (fun k => rfl) ?_
    refine zg_bi rfl (by decide) ?_
    refine zg_lt rfl rfl (fun x y k => rfl) (by first | assumption | exact hA _ _ | exact hB _ _ | exact zrg_max (by assumption) (hA _ _) | (constructor <;> omega)) (by first | assumption | exact hA _ _ | exact hB _ _ | exact zrg_max (by assumption) (hA _ _) | (constructor <;> omega)) (fun hc => ?_) (fun hc => ?_)
    ·
      refine xg_step rfl rfl (fun k => rfl) ?_
      refine xg_get rfl rfl (zha (by omega)) (zc_Store hs) rfl rfl ?_
      refine xg_step rfl rfl (fun k => rfl) ?_
      refine xg_step rfl rfl (fun k => rfl) ?_
      refine zg_ast (.inr ⟨rfl, rfl, by omega⟩) (zha (by omega)) (zc_replied hs) (by decide) ⟨by omega, by omega⟩ (zhwA (by omega) (zw_replied hs)) ?_
      refine xg_step rfl rfl (fun k => rfl) ?_
      refine xg_get rfl rfl (zha (by omega)) (zc_Store hs) rfl rfl ?_
      refine xg_step rfl rfl (fun k => rfl) ?_
      refine xg_step rfl rfl (fun k => rfl) ?_
      refine zg_ast (.inl ⟨rfl, rfl⟩) (zha (by omega)) (zc_replies hs) (by decide) ⟨by omega, by omega⟩ (zhwA (by omega) (zw_replies hs)) ?_
      refine zg_ret rfl rfl ?_
      first | exact zmt (by omega) | exact zmf (by omega) | (rw [if_pos (by omega), zup_ne (by omega)])
    ·
      refine zg_ret rfl rfl ?_
      first | exact zmt (by omega) | exact zmf (by omega) | (rw [if_pos (by omega), zup_ne (by omega)])
set_option maxRecDepth 10000 in
theorem zr_71 {d : Nat} {A B : ZM} {s : Int} (hs : 0 ≤ s ∧ s < 3) (hA : zRg A) {k : Int} (ht : 0 ≤ A (60 + 17 * s) 2) : XR (d + 1) 71 [.ref (60 + 17 * s.toNat), zci k] (zhp A B) (none, zhp (if A (60 + 17 * s) 2 < 100 then zup (zup A (61 + 17 * s) (A (60 + 17 * s) 2) k) (60 + 17 * s) 2 (A (60 + 17 * s) 2 + 1) else A) B) := by
  refine XR.of (Nat.le_of_ble_eq_true rfl) rfl ?_
  refine xg_step rfl rfl (fun k => rfl) ?_
  refine xg_get rfl rfl (zha (by omega)) (zc_Term hs) rfl rfl ?_
  refine xg_step rfl rfl (fun k => rfl) ?_
  refine xg_get rfl rfl (zha (by omega)) (zc_Term hs) rfl rfl ?_
  refine zg_len (x := 100) rfl (zha (by omega)) (zc_prepares hs) rfl ?_
  refine zg_lt rfl rfl (fun x y k => rfl) (by first | assumption | exact hA _ _ | exact hB _ _ | exact zrg_max (by assumption) (hA _ _) | (constructor <;> omega)) (by first | assumption | exact hA _ _ | exact hB _ _ | exact zrg_max (by assumption) (hA _ _) | (constructor <;> omega)) (fun hc => ?_) (fun hc => ?_)
  ·
    refine xg_step rfl rfl (fun k => rfl) ?_
    refine xg_get rfl rfl (zha (by omega)) (zc_Term hs) rfl rfl ?_
    refine xg_step rfl rfl (fun k => rfl) ?_
    refine xg_get rfl rfl (zha (by omega)) (zc_Term hs) rfl rfl ?_
    refine xg_step rfl rfl (fun k => rfl) ?_
    refine zg_ast (.inl ⟨rfl, rfl⟩) (zha (by omega)) (zc_prepares hs) (by decide) ⟨by omega, by omega⟩ (zhwA (by omega) (zw_prepares hs)) ?_
    refine xg_step rfl rfl (fun k => rfl) ?_
    refine xg_step rfl rfl (fun k => rfl) ?_
    refine zg_geti (x := A (60 + 17 * s) 2) rfl rfl (zha (by omega)) (zc_Term hs) rfl (zup_ne (by omega)) ?_
    refine xg_step rfl rfl (fun k => rfl) ?_
    refine zg_add rfl ?_
    refine zg_put rfl rfl (zha (by omega)) (zc_Term hs) (Nat.le_of_ble_eq_true rfl) rfl zfitI rfl (zhwA (by omega) (zw_Term_2 hs)) ?_
    refine zg_ret rfl rfl ?_
    first | exact zmt (by omega) | exact zmf (by omega) | (rw [if_pos (by omega), zup_ne (by omega)])
  ·
    refine zg_ret rfl rfl ?_
    first | exact zmt (by omega) | exact zmf (by omega) | (rw [if_pos (by omega), zup_ne (by omega)])
set_option maxRecDepth 10000 in
theorem zr_72 {d : Nat} {A B : ZM} {s : Int} (hs : 0 ≤ s ∧ s < 3) (hA : zRg A) {k : Int} (hk : zrg k) : XR (d + 1) 72 [.ref (60 + 17 * s.toNat), zci k] (zhp A B) (none, zhp (if 0 ≤ k ∧ k < 101 then zup A (62 + 17 * s) k 1 else A) B) := by
  refine XR.of (Nat.le_of_ble_eq_true rfl) rfl ?_
  refine xg_step rfl rfl (fun k => rfl) ?_
  refine zg_lt0 rfl rfl (fun x k => rfl) (by first | assumption | exact hA _ _ | exact hB _ _ | exact zrg_max (by assumption) (hA _ _) | (constructor <;> omega)) (fun hc => ?_) (fun hc => ?_)
  ·
    refine zg_ret rfl rfl ?_
    first | exact zmt (by omega) | exact zmf (by omega) | (rw [if_pos (by omega), zup_ne (by omega)])
  ·
    refine xg_step rfl rfl (fun k => rfl) ?_
    refine xg_step rfl rfl (fun k => rfl) ?_
    refine xg_get rfl rfl (zha (by omega)) (zc_Term hs) rfl rfl ?_
    refine zg_len (x := 101) rfl (zha (by omega)) (zc_voted hs) rfl ?_
    refine zg_lt rfl rfl (fun x y k => rfl) (by first | assumption | exact hA _ _ | exact hB _ _ | exact zrg_max (by assumption) (hA _ _) | (constructor <;> omega)) (by first | assumption | exact hA _ _ | exact hB _ _ | exact zrg_max (by assumption) (hA _ _) | (constructor <;> omega)) (fun hc => ?_) (fun hc => ?_)
    ·
      refine xg_step rfl rfl (fun k => rfl) ?_
      refine xg_get rfl rfl (zha (by omega)) (zc_Term hs) rfl rfl ?_
      refine xg_step rfl rfl (fun k => rfl) ?_
      refine xg_step rfl rfl (fun k => rfl) ?_
      refine zg_ast (.inr ⟨rfl, rfl, by omega⟩) (zha (by omega)) (zc_voted hs) (by decide) ⟨by omega, by omega⟩ (zhwA (by omega) (zw_voted hs)) ?_
      refine zg_ret rfl rfl ?_
      first | exact zmt (by omega) | exact zmf (by omega) | (rw [if_pos (by omega), zup_ne (by omega)])
    ·
      refine zg_ret rfl rfl ?_
      first | exact zmt (by omega) | exact zmf (by omega) | (rw [if_pos (by omega), zup_ne (by omega)])
set_option maxRecDepth 10000 in
theorem zr_73 {d : Nat} {A B : ZM} {s : Int} (hs : 0 ≤ s ∧ s < 3) (hA : zRg A) {k : Int} (hk : zrg k) : XR (d + 1) 73 [.ref (60 + 17 * s.toNat), zci k] (zhp A B) (some (zci (zb2 ((0 ≤ k ∧ k < 101) ∧ ¬ A (62 + 17 * s) k = 0))), zhp A B) := by
  refine XR.of (Nat.le_of_ble_eq_true rfl) rfl ?_
  refine xg_step rfl rfl (fun k => rfl) ?_
  refine zg_lt0 rfl rfl (fun x k => rfl) (by first | assumption | exact hA _ _ | exact hB _ _ | exact zrg_max (by assumption) (hA _ _) | (constructor <;> omega)) (fun hc => ?_) (fun hc => ?_)
  ·
    refine xg_step rfl rfl (fun k => rfl) ?_
    refine zg_iret rfl rfl (zfitZ (by omega)) ?_
    exact zl0 (by omega)
  ·
    refine xg_step rfl rfl (fun k => rfl) ?_
    refine xg_step rfl rfl (fun k => rfl) ?_
    refine xg_get rfl rfl (zha (by omega)) (zc_Term hs) rfl rfl ?_
    refine zg_len (x := 101) rfl (zha (by omega)) (zc_voted hs) rfl ?_
    refine zg_lt rfl rfl (fun x y k => rfl) (by first | assumption | exact hA _ _ | exact hB _ _ | exact zrg_max (by assumption) (hA _ _) | (constructor <;> omega)) (by first | assumption | exact hA _ _ | exact hB _ _ | exact zrg_max (by assumption) (hA _ _) | (constructor <;> omega)) (fun hc => ?_) (fun hc => ?_)
    ·
      refine xg_step rfl rfl (fun k => rfl) ?_
      refine xg_get rfl rfl (zha (by omega)) (zc_Term hs) rfl rfl ?_
      refine xg_step rfl rfl (fun k => rfl) ?_
      refine zg_ald (.inr ⟨rfl, rfl⟩) (zha (by omega)) (zc_voted hs) (by decide) ⟨by omega, by omega⟩ rfl ?_
      refine zg_eq0 rfl rfl (fun x k => rfl) (by first | assumption | exact hA _ _ | exact hB _ _ | exact zrg_max (by assumption) (hA _ _) | (constructor <;> omega)) (fun hc => ?_) (fun hc => ?_)
      ·
        refine xg_step rfl rfl (fun k => rfl) ?_
        refine zg_iret rfl rfl (zfitZ (by omega)) ?_
        exact zl0 (by omega)
      ·
        refine xg_step rfl rfl (fun k => rfl) ?_
        refine xg_step rfl rfl (fun k => rfl) ?_
        refine zg_iret rfl rfl (zfitZ (by omega)) ?_
        exact zl1 (by omega)
    ·
      refine xg_step rfl rfl (fun k => rfl) ?_
      refine zg_iret rfl rfl (zfitZ (by omega)) ?_
      exact zl0 (by omega)
set_option maxRecDepth 10000 in
theorem zr_74 {d : Nat} {A B : ZM} {s : Int} (hs : 0 ≤ s ∧ s < 3) (hA : zRg A)  (ht : A (60 + 17 * s) 2 ≤ 100) (ht2 : 0 ≤ A (60 + 17 * s) 3) : XR (d + 2) 74 [.ref (60 + 17 * s.toNat)] (zhp A B) (some (zci (if A (60 + 17 * s) 3 < A (60 + 17 * s) 2 ∧ (0 ≤ A (61 + 17 * s) (A (60 + 17 * s) 3) ∧ A (61 + 17 * s) (A (60 + 17 * s) 3) < 101) ∧ ¬ A (62 + 17 * s) (A (61 + 17 * s) (A (60 + 17 * s) 3)) = 0 then A (61 + 17 * s) (A (60 + 17 * s) 3) else -1)), zhp A B) := by
  refine XR.of (Nat.le_of_ble_eq_true rfl) rfl ?_
  refine xg_step rfl rfl (fun k => rfl) ?_
  refine xg_get rfl rfl (zha (by omega)) (zc_Term hs) rfl rfl ?_
  refine xg_step rfl rfl (fun k => rfl) ?_
  refine xg_get rfl rfl (zha (by omega)) (zc_Term hs) rfl rfl ?_
  refine zg_lt rfl rfl (fun x y k => rfl) (by first | assumption | exact hA _ _ | exact hB _ _ | exact zrg_max (by assumption) (hA _ _) | (constructor <;> omega)) (by first | assumption | exact hA _ _ | exact hB _ _ | exact zrg_max (by assumption) (hA _ _) | (constructor <;> omega)) (fun hc => ?_) (fun hc => ?_)
  ·
    refine xg_step rfl rfl (fun k => rfl) ?_
    refine xg_step rfl rfl (fun k => rfl) ?_
    refine xg_get rfl rfl (zha (by omega)) (zc_Term hs) rfl rfl ?_
    refine xg_step rfl rfl (fun k => rfl) ?_
    refine xg_get rfl rfl (zha (by omega)) (zc_Term hs) rfl rfl ?_
    refine zg_ald (.inl ⟨rfl, rfl⟩) (zha (by omega)) (zc_prepares hs) (by decide) ⟨by omega, by omega⟩ rfl ?_
    refine zg_cvb rfl rfl rfl (Nat.le_of_ble_eq_true rfl) (zha (by omega)) (zc_Term hs) rfl rfl (zr_73 hs hA (by first | assumption | exact hA _ _ | exact hB _ _ | exact zrg_max (by assumption) (hA _ _) | (constructor <;> omega))) (fun hc => ?_) (fun hc => ?_)
    ·
      refine xg_step rfl rfl (fun k => rfl) ?_
      refine xg_step rfl rfl (fun k => rfl) ?_
      refine xg_get rfl rfl (zha (by omega)) (zc_Term hs) rfl rfl ?_
      refine xg_step rfl rfl (fun k => rfl) ?_
      refine xg_get rfl rfl (zha (by omega)) (zc_Term hs) rfl rfl ?_
      refine zg_ald (.inl ⟨rfl, rfl⟩) (zha (by omega)) (zc_prepares hs) (by decide) ⟨by omega, by omega⟩ rfl ?_
      refine xg_step rfl rfl (fun k => rfl) ?_
      refine zg_iret rfl rfl zfitI ?_
      first | exact zli (by omega) | exact zle (by omega)
    ·
      refine xg_step rfl rfl (fun k => rfl) ?_
      refine xg_step rfl rfl (fun k => rfl) ?_
      refine zg_iret rfl rfl zfitI ?_
      first | exact zli (by omega) | exact zle (by omega)
  ·
    refine xg_step rfl rfl (fun k => rfl) ?_
    refine zg_iret rfl rfl zfitI ?_
    first | exact zli (by omega) | exact zle (by omega)
set_option maxRecDepth 10000 in
theorem zr_99 {d : Nat} {A B : ZM} (hA : zRg A) {v : Int} (hv : 0 ≤ v ∧ v < 2147483648) : XR (d + 1) 99 [zci v] (zhp A B) (some (zci (v % 3)), zhp A B) := by
  refine XR.of (Nat.le_of_ble_eq_true rfl) rfl ?_
  refine xg_step rfl rfl (fun k => rfl) ?_
  refine xg_step rfl rfl (fun k => rfl) ?_
  refine zg_rem rfl (by omega) ?_
  refine zg_iret rfl rfl zfitI ?_
  rfl
set_option maxRecDepth 10000 in
theorem zr_101 {d : Nat} {A B : ZM} (hA : zRg A) {v : Int} (hv : 0 ≤ v ∧ v < 2147483648) : XR (d + 1) 101 [zci v] (zhp A B) (some (zci (v % 3)), zhp A B) := by
  refine XR.of (Nat.le_of_ble_eq_true rfl) rfl ?_
  refine xg_step rfl rfl (fun k => rfl) ?_
  refine xg_step rfl rfl (fun k => rfl) ?_
  refine zg_rem rfl (by omega) ?_
  refine zg_iret rfl rfl zfitI ?_
  rfl
set_option maxRecDepth 10000 in
theorem zr_102 {d : Nat} {A B : ZM} (hA : zRg A) {v : Int} (hv : 0 ≤ v ∧ v < 2147483648) : XR (d + 1) 102 [zci v] (zhp A B) (some (zci (v / 3)), zhp A B) := by
  refine XR.of (Nat.le_of_ble_eq_true rfl) rfl ?_
  refine xg_step rfl rfl (fun k => rfl) ?_
  refine xg_step rfl rfl (fun k => rfl) ?_
  refine zg_div rfl (by omega) ?_
  refine zg_iret rfl rfl zfitI ?_
  rfl
set_option maxRecDepth 10000 in
theorem zr_100 {d : Nat} {A B : ZM} (hA : zRg A) {p : Int} {k : Int}  : XR (d + 1) 100 [zci p, zci k] (zhp A B) (some (zci (k * 3 + p)), zhp A B) := by
  refine XR.of (Nat.le_of_ble_eq_true rfl) rfl ?_
  refine xg_step rfl rfl (fun k => rfl) ?_
  refine xg_step rfl rfl (fun k => rfl) ?_
  refine zg_mul rfl ?_
  refine xg_step rfl rfl (fun k => rfl) ?_
  refine zg_add rfl ?_
  refine zg_iret rfl rfl zfitI ?_
  rfl
set_option maxRecDepth 10000 in
theorem zr_92 {d : Nat} {A B : ZM} (hA : zRg A) {p : Int} (hp : 0 ≤ p ∧ p < 3) : XR (d + 1) 92 [zci p] (zhp A B) (none, zhp A B) := by
  refine XR.of (Nat.le_of_ble_eq_true rfl) rfl ?_
  refine xg_step rfl rfl (fun k => rfl) ?_
  refine zg_lt0 rfl rfl (fun x k => rfl) (by first | assumption | exact hA _ _ | exact hB _ _ | exact zrg_max (by assumption) (hA _ _) | (constructor <;> omega)) (fun hc => ?_) (fun hc => ?_)
  ·
    exact (by omega : False).elim
  ·
    refine xg_step rfl rfl (fun k => rfl) ?_
    refine xg_step rfl rfl (fun k => rfl) ?_
    refine zg_lt rfl rfl (fun x y k => rfl) (by first | assumption | exact hA _ _ | exact hB _ _ | exact zrg_max (by assumption) (hA _ _) | (constructor <;> omega)) (by first | assumption | exact hA _ _ | exact hB _ _ | exact zrg_max (by assumption) (hA _ _) | (constructor <;> omega)) (fun hc => ?_) (fun hc => ?_)
    ·
      refine zg_ret rfl rfl ?_
      rfl
    ·
      exact (by omega : False).elim
