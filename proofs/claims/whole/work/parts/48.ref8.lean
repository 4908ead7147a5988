/-! the reference: reading a message -/
set_option maxRecDepth 10000 in
theorem zq_122v {d : Nat} {A B C : ZM} (hB : zRg B) (hC : zRg C) (hL : zLI B C) {t s k : Int} (ht : 0 ≤ t ∧ t < 3) (hs : 0 ≤ s ∧ s < 3) (hk : 1 ≤ k ∧ k ≤ B (44 + 2 * s) 1) (hc0 : ¬ B (45 + 2 * s) (k * 5 + 4) = 0 ∨ ((B (45 + 2 * s) (k * 5 + 0) = 0 ∨ B (45 + 2 * s) (k * 5 + 0) = 1) ∧ ¬ (B (45 + 2 * s) (k * 5 + 1) = B (56 + 17 * t) 7 ∧ ¬ B (56 + 17 * t) 8 = 0)) ∨ (B (45 + 2 * s) (k * 5 + 0) = 3 ∧ ¬ (B (56 + 17 * t) 7 < B (45 + 2 * s) (k * 5 + 1) ∨ (B (45 + 2 * s) (k * 5 + 1) = B (56 + 17 * t) 7 ∧ B (56 + 17 * t) 8 = 0)))) (hD : zDrf B C t) : XR (d + 15) 122 [.ref 107, zci (t), zci (s), zci (k)] (zhp A (zmg B C)) (none, zhp A (zmg (zD B t) (zDC B t C))) := by
  have hcs := hL.1 s hs
  obtain ⟨⟨m0, m1, m2, m3⟩, -⟩ := hL.2.1 s k hs hk
  refine XR.of (Nat.le_of_ble_eq_true rfl) rfl ?_
  refine xg_step rfl rfl (fun k => rfl) ?_
  refine xg_step rfl rfl (fun k => rfl) ?_
  refine zg_csi rfl rfl (by decide) rfl rfl (Nat.le_of_ble_eq_true rfl) rfl (zq_106 hB hC) ?_
  refine xg_step rfl rfl (fun k => rfl) ?_
  refine xg_step rfl rfl (fun k => rfl) ?_
  refine xg_get rfl rfl (zha (by decide)) zc_RefM rfl rfl ?_
  refine xg_step rfl rfl (fun k => rfl) ?_
  refine zg_ald (.inl ⟨rfl, rfl⟩) (zha (by decide)) zc_r_views (by decide) ⟨by omega, by omega⟩ (zvB (zk_views (by omega) (by omega)) (by omega)) ?_
  refine xg_step rfl rfl (fun k => rfl) ?_
  refine xg_step rfl rfl (fun k => rfl) ?_
  refine xg_step rfl rfl (fun k => rfl) ?_
  refine xg_step rfl rfl (fun k => rfl) ?_
  refine zg_cvb rfl rfl rfl (Nat.le_of_ble_eq_true rfl) (zha (by decide)) zc_RefM rfl rfl (zq_114 hB hC hL (by omega) (by omega)) (fun hc => ?_) (fun hc => ?_)
  ·
    refine xg_step rfl rfl (fun k => rfl) ?_
    refine xg_step rfl rfl (fun k => rfl) ?_
    refine xg_step rfl rfl (fun k => rfl) ?_
    refine zg_cvv rfl rfl rfl (Nat.le_of_ble_eq_true rfl) (zha (by decide)) zc_RefM rfl rfl (zq_126 hB hC ht hD) ?_
    refine zg_ret rfl rfl ?_
    first | rfl | exact (by omega : False).elim
  ·
    refine xg_step rfl rfl (fun k => rfl) ?_
    refine xg_step rfl rfl (fun k => rfl) ?_
    refine xg_get rfl rfl (zha (by decide)) zc_RefM rfl rfl ?_
    refine xg_step rfl rfl (fun k => rfl) ?_
    refine zg_ald (.inl ⟨rfl, rfl⟩) (zha (by decide)) zc_r_kinds (by decide) ⟨by omega, by omega⟩ (zvB (zk_kinds (by omega) (by omega)) (by omega)) ?_
    refine zg_swi 0 rfl rfl (fun k => rfl) (fun hc => ?_) (fun hc => ?_)
    ·
      refine xg_step rfl rfl (fun k => rfl) ?_
      refine xg_step rfl rfl (fun k => rfl) ?_
      refine xg_get rfl rfl (zha (by decide)) zc_RefM rfl rfl ?_
      refine xg_step rfl rfl (fun k => rfl) ?_
      refine zg_ald (.inl ⟨rfl, rfl⟩) (zha (by decide)) zc_r_view (by decide) ⟨by omega, by omega⟩ (zvB (zk_view (by omega)) (by omega)) ?_
      refine zg_eq rfl rfl (fun x y k => rfl) (by first | assumption | exact hA _ _ | exact hB _ _ | exact hC _ _ | exact zrg_max (by assumption) (hA _ _) | (constructor <;> omega)) (by first | assumption | exact hA _ _ | exact hB _ _ | exact hC _ _ | exact zrg_max (by assumption) (hA _ _) | (constructor <;> omega)) (fun hc => ?_) (fun hc => ?_)
      ·
        refine xg_step rfl rfl (fun k => rfl) ?_
        refine xg_get rfl rfl (zha (by decide)) zc_RefM rfl rfl ?_
        refine xg_step rfl rfl (fun k => rfl) ?_
        refine zg_ald (.inr ⟨rfl, rfl⟩) (zha (by decide)) zc_r_active (by decide) ⟨by omega, by omega⟩ (zvB (zk_active (by omega)) (by omega)) ?_
        refine zg_eq0 rfl rfl (fun x k => rfl) (by first | assumption | exact hA _ _ | exact hB _ _ | exact hC _ _ | exact zrg_max (by assumption) (hA _ _) | (constructor <;> omega)) (fun hc => ?_) (fun hc => ?_)
        ·
          refine xg_step rfl rfl (fun k => rfl) ?_
          refine xg_step rfl rfl (fun k => rfl) ?_
          refine zg_cvv rfl rfl rfl (Nat.le_of_ble_eq_true rfl) (zha (by decide)) zc_RefM rfl rfl (zq_126 hB hC ht hD) ?_
          refine zg_ret rfl rfl ?_
          first | rfl | exact (by omega : False).elim
        ·
          exact (by omega : False).elim
      ·
        refine xg_step rfl rfl (fun k => rfl) ?_
        refine xg_step rfl rfl (fun k => rfl) ?_
        refine zg_cvv rfl rfl rfl (Nat.le_of_ble_eq_true rfl) (zha (by decide)) zc_RefM rfl rfl (zq_126 hB hC ht hD) ?_
        refine zg_ret rfl rfl ?_
        first | rfl | exact (by omega : False).elim
    refine zg_swi 1 rfl rfl (fun k => rfl) (fun hc => ?_) (fun hc => ?_)
    ·
      refine xg_step rfl rfl (fun k => rfl) ?_
      refine xg_step rfl rfl (fun k => rfl) ?_
      refine xg_get rfl rfl (zha (by decide)) zc_RefM rfl rfl ?_
      refine xg_step rfl rfl (fun k => rfl) ?_
      refine zg_ald (.inl ⟨rfl, rfl⟩) (zha (by decide)) zc_r_view (by decide) ⟨by omega, by omega⟩ (zvB (zk_view (by omega)) (by omega)) ?_
      refine zg_eq rfl rfl (fun x y k => rfl) (by first | assumption | exact hA _ _ | exact hB _ _ | exact hC _ _ | exact zrg_max (by assumption) (hA _ _) | (constructor <;> omega)) (by first | assumption | exact hA _ _ | exact hB _ _ | exact hC _ _ | exact zrg_max (by assumption) (hA _ _) | (constructor <;> omega)) (fun hc => ?_) (fun hc => ?_)
      ·
        refine xg_step rfl rfl (fun k => rfl) ?_
        refine xg_get rfl rfl (zha (by decide)) zc_RefM rfl rfl ?_
        refine xg_step rfl rfl (fun k => rfl) ?_
        refine zg_ald (.inr ⟨rfl, rfl⟩) (zha (by decide)) zc_r_active (by decide) ⟨by omega, by omega⟩ (zvB (zk_active (by omega)) (by omega)) ?_
        refine zg_eq0 rfl rfl (fun x k => rfl) (by first | assumption | exact hA _ _ | exact hB _ _ | exact hC _ _ | exact zrg_max (by assumption) (hA _ _) | (constructor <;> omega)) (fun hc => ?_) (fun hc => ?_)
        ·
          refine xg_step rfl rfl (fun k => rfl) ?_
          refine xg_step rfl rfl (fun k => rfl) ?_
          refine zg_cvv rfl rfl rfl (Nat.le_of_ble_eq_true rfl) (zha (by decide)) zc_RefM rfl rfl (zq_126 hB hC ht hD) ?_
          refine zg_ret rfl rfl ?_
          first | rfl | exact (by omega : False).elim
        ·
          exact (by omega : False).elim
      ·
        refine xg_step rfl rfl (fun k => rfl) ?_
        refine xg_step rfl rfl (fun k => rfl) ?_
        refine zg_cvv rfl rfl rfl (Nat.le_of_ble_eq_true rfl) (zha (by decide)) zc_RefM rfl rfl (zq_126 hB hC ht hD) ?_
        refine zg_ret rfl rfl ?_
        first | rfl | exact (by omega : False).elim
    refine zg_swi 2 rfl rfl (fun k => rfl) (fun hc => ?_) (fun hc => ?_)
    ·
      exact (by omega : False).elim
    refine zg_swd rfl (by first | assumption | exact hA _ _ | exact hB _ _ | exact hC _ _ | exact zrg_max (by assumption) (hA _ _) | (constructor <;> omega)) (by omega) (fun k => rfl) ?_
    refine xg_step rfl rfl (fun k => rfl) ?_
    refine xg_step rfl rfl (fun k => rfl) ?_
    refine xg_get rfl rfl (zha (by decide)) zc_RefM rfl rfl ?_
    refine xg_step rfl rfl (fun k => rfl) ?_
    refine zg_ald (.inl ⟨rfl, rfl⟩) (zha (by decide)) zc_r_view (by decide) ⟨by omega, by omega⟩ (zvB (zk_view (by omega)) (by omega)) ?_
    refine zg_gt rfl rfl (fun x y k => rfl) (by first | assumption | exact hA _ _ | exact hB _ _ | exact hC _ _ | exact zrg_max (by assumption) (hA _ _) | (constructor <;> omega)) (by first | assumption | exact hA _ _ | exact hB _ _ | exact hC _ _ | exact zrg_max (by assumption) (hA _ _) | (constructor <;> omega)) (fun hc => ?_) (fun hc => ?_)
    ·
      exact (by omega : False).elim
    ·
      refine xg_step rfl rfl (fun k => rfl) ?_
      refine xg_step rfl rfl (fun k => rfl) ?_
      refine xg_get rfl rfl (zha (by decide)) zc_RefM rfl rfl ?_
      refine xg_step rfl rfl (fun k => rfl) ?_
      refine zg_ald (.inl ⟨rfl, rfl⟩) (zha (by decide)) zc_r_view (by decide) ⟨by omega, by omega⟩ (zvB (zk_view (by omega)) (by omega)) ?_
      refine zg_eq rfl rfl (fun x y k => rfl) (by first | assumption | exact hA _ _ | exact hB _ _ | exact hC _ _ | exact zrg_max (by assumption) (hA _ _) | (constructor <;> omega)) (by first | assumption | exact hA _ _ | exact hB _ _ | exact hC _ _ | exact zrg_max (by assumption) (hA _ _) | (constructor <;> omega)) (fun hc => ?_) (fun hc => ?_)
      ·
        refine xg_step rfl rfl (fun k => rfl) ?_
        refine xg_get rfl rfl (zha (by decide)) zc_RefM rfl rfl ?_
        refine xg_step rfl rfl (fun k => rfl) ?_
        refine zg_ald (.inr ⟨rfl, rfl⟩) (zha (by decide)) zc_r_active (by decide) ⟨by omega, by omega⟩ (zvB (zk_active (by omega)) (by omega)) ?_
        refine zg_eq0 rfl rfl (fun x k => rfl) (by first | assumption | exact hA _ _ | exact hB _ _ | exact hC _ _ | exact zrg_max (by assumption) (hA _ _) | (constructor <;> omega)) (fun hc => ?_) (fun hc => ?_)
        ·
          exact (by omega : False).elim
        ·
          refine xg_step rfl rfl (fun k => rfl) ?_
          refine xg_step rfl rfl (fun k => rfl) ?_
          refine zg_cvv rfl rfl rfl (Nat.le_of_ble_eq_true rfl) (zha (by decide)) zc_RefM rfl rfl (zq_126 hB hC ht hD) ?_
          refine zg_ret rfl rfl ?_
          first | rfl | exact (by omega : False).elim
      ·
        refine xg_step rfl rfl (fun k => rfl) ?_
        refine xg_step rfl rfl (fun k => rfl) ?_
        refine zg_cvv rfl rfl rfl (Nat.le_of_ble_eq_true rfl) (zha (by decide)) zc_RefM rfl rfl (zq_126 hB hC ht hD) ?_
        refine zg_ret rfl rfl ?_
        first | rfl | exact (by omega : False).elim
set_option maxRecDepth 10000 in
theorem zq_122p {d : Nat} {A B C : ZM} (hB : zRg B) (hC : zRg C) (hL : zLI B C) {t s k : Int} (ht : 0 ≤ t ∧ t < 3) (hs : 0 ≤ s ∧ s < 3) (hk : 1 ≤ k ∧ k ≤ B (44 + 2 * s) 1) (h0 : B (45 + 2 * s) (k * 5 + 0) = 0) (hv0 : B (45 + 2 * s) (k * 5 + 4) = 0) (hw : B (45 + 2 * s) (k * 5 + 1) = B (56 + 17 * t) 7) (hac : ¬ B (56 + 17 * t) 8 = 0) {B2 C2 : ZM} (hB2 : zRg B2) (hC2 : zRg C2) (hmid : XR (d + 14) 123 [.ref 107, zci t, zci k] (zhp A (zmg B C)) (none, zhp A (zmg B2 C2))) (hD : zDrf B2 C2 t) : XR (d + 15) 122 [.ref 107, zci (t), zci (s), zci (k)] (zhp A (zmg B C)) (none, zhp A (zmg (zD B2 t) (zDC B2 t C2))) := by
  have hcs := hL.1 s hs
  obtain ⟨⟨m0, m1, m2, m3⟩, -⟩ := hL.2.1 s k hs hk
  refine XR.of (Nat.le_of_ble_eq_true rfl) rfl ?_
  refine xg_step rfl rfl (fun k => rfl) ?_
  refine xg_step rfl rfl (fun k => rfl) ?_
  refine zg_csi rfl rfl (by decide) rfl rfl (Nat.le_of_ble_eq_true rfl) rfl (zq_106 hB hC) ?_
  refine xg_step rfl rfl (fun k => rfl) ?_
  refine xg_step rfl rfl (fun k => rfl) ?_
  refine xg_get rfl rfl (zha (by decide)) zc_RefM rfl rfl ?_
  refine xg_step rfl rfl (fun k => rfl) ?_
  refine zg_ald (.inl ⟨rfl, rfl⟩) (zha (by decide)) zc_r_views (by decide) ⟨by omega, by omega⟩ (zvB (zk_views (by omega) (by omega)) (by omega)) ?_
  refine xg_step rfl rfl (fun k => rfl) ?_
  refine xg_step rfl rfl (fun k => rfl) ?_
  refine xg_step rfl rfl (fun k => rfl) ?_
  refine xg_step rfl rfl (fun k => rfl) ?_
  refine zg_cvb rfl rfl rfl (Nat.le_of_ble_eq_true rfl) (zha (by decide)) zc_RefM rfl rfl (zq_114 hB hC hL (by omega) (by omega)) (fun hc => ?_) (fun hc => ?_)
  ·
    refine xg_step rfl rfl (fun k => rfl) ?_
    exact (by omega : False).elim
  ·
    refine xg_step rfl rfl (fun k => rfl) ?_
    refine xg_step rfl rfl (fun k => rfl) ?_
    refine xg_get rfl rfl (zha (by decide)) zc_RefM rfl rfl ?_
    refine xg_step rfl rfl (fun k => rfl) ?_
    refine zg_ald (.inl ⟨rfl, rfl⟩) (zha (by decide)) zc_r_kinds (by decide) ⟨by omega, by omega⟩ (zvB (zk_kinds (by omega) (by omega)) (by omega)) ?_
    refine zg_swi 0 rfl rfl (fun k => rfl) (fun hc => ?_) (fun hc => ?_)
    ·
      refine xg_step rfl rfl (fun k => rfl) ?_
      refine xg_step rfl rfl (fun k => rfl) ?_
      refine xg_get rfl rfl (zha (by decide)) zc_RefM rfl rfl ?_
      refine xg_step rfl rfl (fun k => rfl) ?_
      refine zg_ald (.inl ⟨rfl, rfl⟩) (zha (by decide)) zc_r_view (by decide) ⟨by omega, by omega⟩ (zvB (zk_view (by omega)) (by omega)) ?_
      refine zg_eq rfl rfl (fun x y k => rfl) (by first | assumption | exact hA _ _ | exact hB _ _ | exact hC _ _ | exact zrg_max (by assumption) (hA _ _) | (constructor <;> omega)) (by first | assumption | exact hA _ _ | exact hB _ _ | exact hC _ _ | exact zrg_max (by assumption) (hA _ _) | (constructor <;> omega)) (fun hc => ?_) (fun hc => ?_)
      ·
        refine xg_step rfl rfl (fun k => rfl) ?_
        refine xg_get rfl rfl (zha (by decide)) zc_RefM rfl rfl ?_
        refine xg_step rfl rfl (fun k => rfl) ?_
        refine zg_ald (.inr ⟨rfl, rfl⟩) (zha (by decide)) zc_r_active (by decide) ⟨by omega, by omega⟩ (zvB (zk_active (by omega)) (by omega)) ?_
        refine zg_eq0 rfl rfl (fun x k => rfl) (by first | assumption | exact hA _ _ | exact hB _ _ | exact hC _ _ | exact zrg_max (by assumption) (hA _ _) | (constructor <;> omega)) (fun hc => ?_) (fun hc => ?_)
        ·
          exact (by omega : False).elim
        ·
          refine xg_step rfl rfl (fun k => rfl) ?_
          refine xg_step rfl rfl (fun k => rfl) ?_
          refine xg_step rfl rfl (fun k => rfl) ?_
          refine zg_cvv rfl rfl rfl (Nat.le_of_ble_eq_true rfl) (zha (by decide)) zc_RefM rfl rfl hmid ?_
          refine xg_step rfl rfl (fun k => rfl) ?_
          refine xg_step rfl rfl (fun k => rfl) ?_
          refine xg_step rfl rfl (fun k => rfl) ?_
          refine zg_cvv rfl rfl rfl (Nat.le_of_ble_eq_true rfl) (zha (by decide)) zc_RefM rfl rfl (zq_126 hB2 hC2 ht hD) ?_
          refine zg_ret rfl rfl ?_
          first | rfl | exact (by omega : False).elim
      ·
        exact (by omega : False).elim
    refine zg_swi 1 rfl rfl (fun k => rfl) (fun hc => ?_) (fun hc => ?_)
    ·
      refine xg_step rfl rfl (fun k => rfl) ?_
      refine xg_step rfl rfl (fun k => rfl) ?_
      refine xg_get rfl rfl (zha (by decide)) zc_RefM rfl rfl ?_
      refine xg_step rfl rfl (fun k => rfl) ?_
      refine zg_ald (.inl ⟨rfl, rfl⟩) (zha (by decide)) zc_r_view (by decide) ⟨by omega, by omega⟩ (zvB (zk_view (by omega)) (by omega)) ?_
      refine zg_eq rfl rfl (fun x y k => rfl) (by first | assumption | exact hA _ _ | exact hB _ _ | exact hC _ _ | exact zrg_max (by assumption) (hA _ _) | (constructor <;> omega)) (by first | assumption | exact hA _ _ | exact hB _ _ | exact hC _ _ | exact zrg_max (by assumption) (hA _ _) | (constructor <;> omega)) (fun hc => ?_) (fun hc => ?_)
      ·
        refine xg_step rfl rfl (fun k => rfl) ?_
        refine xg_get rfl rfl (zha (by decide)) zc_RefM rfl rfl ?_
        refine xg_step rfl rfl (fun k => rfl) ?_
        refine zg_ald (.inr ⟨rfl, rfl⟩) (zha (by decide)) zc_r_active (by decide) ⟨by omega, by omega⟩ (zvB (zk_active (by omega)) (by omega)) ?_
        refine zg_eq0 rfl rfl (fun x k => rfl) (by first | assumption | exact hA _ _ | exact hB _ _ | exact hC _ _ | exact zrg_max (by assumption) (hA _ _) | (constructor <;> omega)) (fun hc => ?_) (fun hc => ?_)
        ·
          exact (by omega : False).elim
        ·
          exact (by omega : False).elim
      ·
        exact (by omega : False).elim
    refine zg_swi 2 rfl rfl (fun k => rfl) (fun hc => ?_) (fun hc => ?_)
    ·
      exact (by omega : False).elim
    refine zg_swd rfl (by first | assumption | exact hA _ _ | exact hB _ _ | exact hC _ _ | exact zrg_max (by assumption) (hA _ _) | (constructor <;> omega)) (by omega) (fun k => rfl) ?_
    exact (by omega : False).elim
set_option maxRecDepth 10000 in
theorem zq_122h {d : Nat} {A B C : ZM} (hB : zRg B) (hC : zRg C) (hL : zLI B C) {t s k : Int} (ht : 0 ≤ t ∧ t < 3) (hs : 0 ≤ s ∧ s < 3) (hk : 1 ≤ k ∧ k ≤ B (44 + 2 * s) 1) (h0 : B (45 + 2 * s) (k * 5 + 0) = 2) (hv0 : B (45 + 2 * s) (k * 5 + 4) = 0) {B2 C2 : ZM} (hB2 : zRg B2) (hC2 : zRg C2) (hmid : XR (d + 14) 125 [.ref 107, zci t, zci s, zci k, zci (B (45 + 2 * s) (k * 5 + 1))] (zhp A (zmg B C)) (none, zhp A (zmg B2 C2))) (hD : zDrf B2 C2 t) : XR (d + 15) 122 [.ref 107, zci (t), zci (s), zci (k)] (zhp A (zmg B C)) (none, zhp A (zmg (zD B2 t) (zDC B2 t C2))) := by
  have hcs := hL.1 s hs
  obtain ⟨⟨m0, m1, m2, m3⟩, -⟩ := hL.2.1 s k hs hk
  refine XR.of (Nat.le_of_ble_eq_true rfl) rfl ?_
  refine xg_step rfl rfl (fun k => rfl) ?_
  refine xg_step rfl rfl (fun k => rfl) ?_
  refine zg_csi rfl rfl (by decide) rfl rfl (Nat.le_of_ble_eq_true rfl) rfl (zq_106 hB hC) ?_
  refine xg_step rfl rfl (fun k => rfl) ?_
  refine xg_step rfl rfl (fun k => rfl) ?_
  refine xg_get rfl rfl (zha (by decide)) zc_RefM rfl rfl ?_
  refine xg_step rfl rfl (fun k => rfl) ?_
  refine zg_ald (.inl ⟨rfl, rfl⟩) (zha (by decide)) zc_r_views (by decide) ⟨by omega, by omega⟩ (zvB (zk_views (by omega) (by omega)) (by omega)) ?_
  refine xg_step rfl rfl (fun k => rfl) ?_
  refine xg_step rfl rfl (fun k => rfl) ?_
  refine xg_step rfl rfl (fun k => rfl) ?_
  refine xg_step rfl rfl (fun k => rfl) ?_
  refine zg_cvb rfl rfl rfl (Nat.le_of_ble_eq_true rfl) (zha (by decide)) zc_RefM rfl rfl (zq_114 hB hC hL (by omega) (by omega)) (fun hc => ?_) (fun hc => ?_)
  ·
    refine xg_step rfl rfl (fun k => rfl) ?_
    exact (by omega : False).elim
  ·
    refine xg_step rfl rfl (fun k => rfl) ?_
    refine xg_step rfl rfl (fun k => rfl) ?_
    refine xg_get rfl rfl (zha (by decide)) zc_RefM rfl rfl ?_
    refine xg_step rfl rfl (fun k => rfl) ?_
    refine zg_ald (.inl ⟨rfl, rfl⟩) (zha (by decide)) zc_r_kinds (by decide) ⟨by omega, by omega⟩ (zvB (zk_kinds (by omega) (by omega)) (by omega)) ?_
    refine zg_swi 0 rfl rfl (fun k => rfl) (fun hc => ?_) (fun hc => ?_)
    ·
      exact (by omega : False).elim
    refine zg_swi 1 rfl rfl (fun k => rfl) (fun hc => ?_) (fun hc => ?_)
    ·
      exact (by omega : False).elim
    refine zg_swi 2 rfl rfl (fun k => rfl) (fun hc => ?_) (fun hc => ?_)
    ·
      refine xg_step rfl rfl (fun k => rfl) ?_
      refine xg_step rfl rfl (fun k => rfl) ?_
      refine xg_step rfl rfl (fun k => rfl) ?_
      refine xg_step rfl rfl (fun k => rfl) ?_
      refine xg_step rfl rfl (fun k => rfl) ?_
      refine zg_cvv rfl rfl rfl (Nat.le_of_ble_eq_true rfl) (zha (by decide)) zc_RefM rfl rfl hmid ?_
      refine xg_step rfl rfl (fun k => rfl) ?_
      refine xg_step rfl rfl (fun k => rfl) ?_
      refine xg_step rfl rfl (fun k => rfl) ?_
      refine zg_cvv rfl rfl rfl (Nat.le_of_ble_eq_true rfl) (zha (by decide)) zc_RefM rfl rfl (zq_126 hB2 hC2 ht hD) ?_
      refine zg_ret rfl rfl ?_
      first | rfl | exact (by omega : False).elim
    refine zg_swd rfl (by first | assumption | exact hA _ _ | exact hB _ _ | exact hC _ _ | exact zrg_max (by assumption) (hA _ _) | (constructor <;> omega)) (by omega) (fun k => rfl) ?_
    exact (by omega : False).elim
set_option maxRecDepth 10000 in
theorem zq_122n {d : Nat} {A B C : ZM} (hB : zRg B) (hC : zRg C) (hL : zLI B C) {t s k : Int} (ht : 0 ≤ t ∧ t < 3) (hs : 0 ≤ s ∧ s < 3) (hk : 1 ≤ k ∧ k ≤ B (44 + 2 * s) 1) (h0 : B (45 + 2 * s) (k * 5 + 0) = 3) (hv0 : B (45 + 2 * s) (k * 5 + 4) = 0) (hcd : B (56 + 17 * t) 7 < B (45 + 2 * s) (k * 5 + 1) ∨ (B (45 + 2 * s) (k * 5 + 1) = B (56 + 17 * t) 7 ∧ B (56 + 17 * t) 8 = 0)) {B2 C2 : ZM} (hB2 : zRg B2) (hC2 : zRg C2) (hmid : XR (d + 14) 124 [.ref 107, zci t, zci k, zci (B (45 + 2 * s) (k * 5 + 1))] (zhp A (zmg B C)) (none, zhp A (zmg B2 C2))) (hD : zDrf B2 C2 t) : XR (d + 15) 122 [.ref 107, zci (t), zci (s), zci (k)] (zhp A (zmg B C)) (none, zhp A (zmg (zD B2 t) (zDC B2 t C2))) := by
  have hcs := hL.1 s hs
  obtain ⟨⟨m0, m1, m2, m3⟩, -⟩ := hL.2.1 s k hs hk
  refine XR.of (Nat.le_of_ble_eq_true rfl) rfl ?_
  refine xg_step rfl rfl (fun k => rfl) ?_
  refine xg_step rfl rfl (fun k => rfl) ?_
  refine zg_csi rfl rfl (by decide) rfl rfl (Nat.le_of_ble_eq_true rfl) rfl (zq_106 hB hC) ?_
  refine xg_step rfl rfl (fun k => rfl) ?_
  refine xg_step rfl rfl (fun k => rfl) ?_
  refine xg_get rfl rfl (zha (by decide)) zc_RefM rfl rfl ?_
  refine xg_step rfl rfl (fun k => rfl) ?_
  refine zg_ald (.inl ⟨rfl, rfl⟩) (zha (by decide)) zc_r_views (by decide) ⟨by omega, by omega⟩ (zvB (zk_views (by omega) (by omega)) (by omega)) ?_
  refine xg_step rfl rfl (fun k => rfl) ?_
  refine xg_step rfl rfl (fun k => rfl) ?_
  refine xg_step rfl rfl (fun k => rfl) ?_
  refine xg_step rfl rfl (fun k => rfl) ?_
  refine zg_cvb rfl rfl rfl (Nat.le_of_ble_eq_true rfl) (zha (by decide)) zc_RefM rfl rfl (zq_114 hB hC hL (by omega) (by omega)) (fun hc => ?_) (fun hc => ?_)
  ·
    refine xg_step rfl rfl (fun k => rfl) ?_
    exact (by omega : False).elim
  ·
    refine xg_step rfl rfl (fun k => rfl) ?_
    refine xg_step rfl rfl (fun k => rfl) ?_
    refine xg_get rfl rfl (zha (by decide)) zc_RefM rfl rfl ?_
    refine xg_step rfl rfl (fun k => rfl) ?_
    refine zg_ald (.inl ⟨rfl, rfl⟩) (zha (by decide)) zc_r_kinds (by decide) ⟨by omega, by omega⟩ (zvB (zk_kinds (by omega) (by omega)) (by omega)) ?_
    refine zg_swi 0 rfl rfl (fun k => rfl) (fun hc => ?_) (fun hc => ?_)
    ·
      exact (by omega : False).elim
    refine zg_swi 1 rfl rfl (fun k => rfl) (fun hc => ?_) (fun hc => ?_)
    ·
      exact (by omega : False).elim
    refine zg_swi 2 rfl rfl (fun k => rfl) (fun hc => ?_) (fun hc => ?_)
    ·
      exact (by omega : False).elim
    refine zg_swd rfl (by first | assumption | exact hA _ _ | exact hB _ _ | exact hC _ _ | exact zrg_max (by assumption) (hA _ _) | (constructor <;> omega)) (by omega) (fun k => rfl) ?_
    refine xg_step rfl rfl (fun k => rfl) ?_
    refine xg_step rfl rfl (fun k => rfl) ?_
    refine xg_get rfl rfl (zha (by decide)) zc_RefM rfl rfl ?_
    refine xg_step rfl rfl (fun k => rfl) ?_
    refine zg_ald (.inl ⟨rfl, rfl⟩) (zha (by decide)) zc_r_view (by decide) ⟨by omega, by omega⟩ (zvB (zk_view (by omega)) (by omega)) ?_
    refine zg_gt rfl rfl (fun x y k => rfl) (by first | assumption | exact hA _ _ | exact hB _ _ | exact hC _ _ | exact zrg_max (by assumption) (hA _ _) | (constructor <;> omega)) (by first | assumption | exact hA _ _ | exact hB _ _ | exact hC _ _ | exact zrg_max (by assumption) (hA _ _) | (constructor <;> omega)) (fun hc => ?_) (fun hc => ?_)
    ·
      refine xg_step rfl rfl (fun k => rfl) ?_
      refine xg_step rfl rfl (fun k => rfl) ?_
      refine xg_step rfl rfl (fun k => rfl) ?_
      refine xg_step rfl rfl (fun k => rfl) ?_
      refine zg_cvv rfl rfl rfl (Nat.le_of_ble_eq_true rfl) (zha (by decide)) zc_RefM rfl rfl hmid ?_
      refine xg_step rfl rfl (fun k => rfl) ?_
      refine xg_step rfl rfl (fun k => rfl) ?_
      refine zg_cvv rfl rfl rfl (Nat.le_of_ble_eq_true rfl) (zha (by decide)) zc_RefM rfl rfl (zq_126 hB2 hC2 ht hD) ?_
      refine zg_ret rfl rfl ?_
      first | rfl | exact (by omega : False).elim
    ·
      refine xg_step rfl rfl (fun k => rfl) ?_
      refine xg_step rfl rfl (fun k => rfl) ?_
      refine xg_get rfl rfl (zha (by decide)) zc_RefM rfl rfl ?_
      refine xg_step rfl rfl (fun k => rfl) ?_
      refine zg_ald (.inl ⟨rfl, rfl⟩) (zha (by decide)) zc_r_view (by decide) ⟨by omega, by omega⟩ (zvB (zk_view (by omega)) (by omega)) ?_
      refine zg_eq rfl rfl (fun x y k => rfl) (by first | assumption | exact hA _ _ | exact hB _ _ | exact hC _ _ | exact zrg_max (by assumption) (hA _ _) | (constructor <;> omega)) (by first | assumption | exact hA _ _ | exact hB _ _ | exact hC _ _ | exact zrg_max (by assumption) (hA _ _) | (constructor <;> omega)) (fun hc => ?_) (fun hc => ?_)
      ·
        refine xg_step rfl rfl (fun k => rfl) ?_
        refine xg_get rfl rfl (zha (by decide)) zc_RefM rfl rfl ?_
        refine xg_step rfl rfl (fun k => rfl) ?_
        refine zg_ald (.inr ⟨rfl, rfl⟩) (zha (by decide)) zc_r_active (by decide) ⟨by omega, by omega⟩ (zvB (zk_active (by omega)) (by omega)) ?_
        refine zg_eq0 rfl rfl (fun x k => rfl) (by first | assumption | exact hA _ _ | exact hB _ _ | exact hC _ _ | exact zrg_max (by assumption) (hA _ _) | (constructor <;> omega)) (fun hc => ?_) (fun hc => ?_)
        ·
          refine xg_step rfl rfl (fun k => rfl) ?_
          refine xg_step rfl rfl (fun k => rfl) ?_
          refine xg_step rfl rfl (fun k => rfl) ?_
          refine xg_step rfl rfl (fun k => rfl) ?_
          refine zg_cvv rfl rfl rfl (Nat.le_of_ble_eq_true rfl) (zha (by decide)) zc_RefM rfl rfl hmid ?_
          refine xg_step rfl rfl (fun k => rfl) ?_
          refine xg_step rfl rfl (fun k => rfl) ?_
          refine zg_cvv rfl rfl rfl (Nat.le_of_ble_eq_true rfl) (zha (by decide)) zc_RefM rfl rfl (zq_126 hB2 hC2 ht hD) ?_
          refine zg_ret rfl rfl ?_
          first | rfl | exact (by omega : False).elim
        ·
          exact (by omega : False).elim
      ·
        exact (by omega : False).elim
set_option maxRecDepth 10000 in
theorem zq_122c {d : Nat} {A B C : ZM} (hB : zRg B) (hC : zRg C) (hL : zLI B C) {t s k : Int} (ht : 0 ≤ t ∧ t < 3) (hs : 0 ≤ s ∧ s < 3) (hk : 1 ≤ k ∧ k ≤ B (44 + 2 * s) 1) (h0 : B (45 + 2 * s) (k * 5 + 0) = 1) (hv0 : B (45 + 2 * s) (k * 5 + 4) = 0) (hw : B (45 + 2 * s) (k * 5 + 1) = B (56 + 17 * t) 7) (hac : ¬ B (56 + 17 * t) 8 = 0) (ha : B (45 + 2 * s) (k * 5 + 2) < 101) (hD : zDrf (zvote B t (B (45 + 2 * s) (k * 5 + 2))) C t) : XR (d + 15) 122 [.ref 107, zci (t), zci (s), zci (k)] (zhp A (zmg B C)) (none, zhp A (zmg (zD (zvote B t (B (45 + 2 * s) (k * 5 + 2))) t) (zDC (zvote B t (B (45 + 2 * s) (k * 5 + 2))) t C))) := by
  have hcs := hL.1 s hs
  obtain ⟨⟨m0, m1, m2, m3⟩, -⟩ := hL.2.1 s k hs hk
  have hvt : zvote B t (B (45 + 2 * s) (k * 5 + 2)) = zup B (62 + 17 * t) (B (45 + 2 * s) (k * 5 + 2)) 1 := if_pos (by omega)
  rw [hvt] at hD ⊢
  refine XR.of (Nat.le_of_ble_eq_true rfl) rfl ?_
  refine xg_step rfl rfl (fun k => rfl) ?_
  refine xg_step rfl rfl (fun k => rfl) ?_
  refine zg_csi rfl rfl (by decide) rfl rfl (Nat.le_of_ble_eq_true rfl) rfl (zq_106 hB hC) ?_
  refine xg_step rfl rfl (fun k => rfl) ?_
  refine xg_step rfl rfl (fun k => rfl) ?_
  refine xg_get rfl rfl (zha (by decide)) zc_RefM rfl rfl ?_
  refine xg_step rfl rfl (fun k => rfl) ?_
  refine zg_ald (.inl ⟨rfl, rfl⟩) (zha (by decide)) zc_r_views (by decide) ⟨by omega, by omega⟩ (zvB (zk_views (by omega) (by omega)) (by omega)) ?_
  refine xg_step rfl rfl (fun k => rfl) ?_
  refine xg_step rfl rfl (fun k => rfl) ?_
  refine xg_step rfl rfl (fun k => rfl) ?_
  refine xg_step rfl rfl (fun k => rfl) ?_
  refine zg_cvb rfl rfl rfl (Nat.le_of_ble_eq_true rfl) (zha (by decide)) zc_RefM rfl rfl (zq_114 hB hC hL (by omega) (by omega)) (fun hc => ?_) (fun hc => ?_)
  ·
    refine xg_step rfl rfl (fun k => rfl) ?_
    exact (by omega : False).elim
  ·
    refine xg_step rfl rfl (fun k => rfl) ?_
    refine xg_step rfl rfl (fun k => rfl) ?_
    refine xg_get rfl rfl (zha (by decide)) zc_RefM rfl rfl ?_
    refine xg_step rfl rfl (fun k => rfl) ?_
    refine zg_ald (.inl ⟨rfl, rfl⟩) (zha (by decide)) zc_r_kinds (by decide) ⟨by omega, by omega⟩ (zvB (zk_kinds (by omega) (by omega)) (by omega)) ?_
    refine zg_swi 0 rfl rfl (fun k => rfl) (fun hc => ?_) (fun hc => ?_)
    ·
      exact (by omega : False).elim
    refine zg_swi 1 rfl rfl (fun k => rfl) (fun hc => ?_) (fun hc => ?_)
    ·
      refine xg_step rfl rfl (fun k => rfl) ?_
      refine xg_step rfl rfl (fun k => rfl) ?_
      refine xg_get rfl rfl (zha (by decide)) zc_RefM rfl rfl ?_
      refine xg_step rfl rfl (fun k => rfl) ?_
      refine zg_ald (.inl ⟨rfl, rfl⟩) (zha (by decide)) zc_r_view (by decide) ⟨by omega, by omega⟩ (zvB (zk_view (by omega)) (by omega)) ?_
      refine zg_eq rfl rfl (fun x y k => rfl) (by first | assumption | exact hA _ _ | exact hB _ _ | exact hC _ _ | exact zrg_max (by assumption) (hA _ _) | (constructor <;> omega)) (by first | assumption | exact hA _ _ | exact hB _ _ | exact hC _ _ | exact zrg_max (by assumption) (hA _ _) | (constructor <;> omega)) (fun hc => ?_) (fun hc => ?_)
      ·
        refine xg_step rfl rfl (fun k => rfl) ?_
        refine xg_get rfl rfl (zha (by decide)) zc_RefM rfl rfl ?_
        refine xg_step rfl rfl (fun k => rfl) ?_
        refine zg_ald (.inr ⟨rfl, rfl⟩) (zha (by decide)) zc_r_active (by decide) ⟨by omega, by omega⟩ (zvB (zk_active (by omega)) (by omega)) ?_
        refine zg_eq0 rfl rfl (fun x k => rfl) (by first | assumption | exact hA _ _ | exact hB _ _ | exact hC _ _ | exact zrg_max (by assumption) (hA _ _) | (constructor <;> omega)) (fun hc => ?_) (fun hc => ?_)
        ·
          exact (by omega : False).elim
        ·
          refine xg_step rfl rfl (fun k => rfl) ?_
          refine xg_get rfl rfl (zha (by decide)) zc_RefM rfl rfl ?_
          refine zg_bi rfl (by decide) ?_
          refine xg_step rfl rfl (fun k => rfl) ?_
          refine zg_mul rfl ?_
          refine xg_step rfl rfl (fun k => rfl) ?_
          refine xg_get rfl rfl (zha (by decide)) zc_RefM rfl rfl ?_
          refine xg_step rfl rfl (fun k => rfl) ?_
          refine zg_ald (.inl ⟨rfl, rfl⟩) (zha (by decide)) zc_r_as (by decide) ⟨by omega, by omega⟩ (zvB (zk_as (by omega) (by omega)) (by omega)) ?_
          refine zg_add rfl ?_
          refine xg_step rfl rfl (fun k => rfl) ?_
          refine zg_ast (.inr ⟨rfl, rfl, by omega⟩) (zha (by decide)) zc_r_votes (by decide) ⟨by omega, by omega⟩ (zhwB (zwB (zk_votes (by omega) (by omega)) zw_r_votes (by omega))) ?_
          refine xg_step rfl rfl (fun k => rfl) ?_
          refine xg_step rfl rfl (fun k => rfl) ?_
          refine xg_step rfl rfl (fun k => rfl) ?_
          refine zg_cvv rfl rfl rfl (Nat.le_of_ble_eq_true rfl) (zha (by decide)) zc_RefM rfl rfl (zq_126 (zRg_up hB (by first | assumption | exact hA _ _ | exact hB _ _ | exact hC _ _ | exact zrg_max (by assumption) (hA _ _) | (constructor <;> omega))) hC ht hD) ?_
          refine zg_ret rfl rfl ?_
          first | rfl | exact (by omega : False).elim
      ·
        exact (by omega : False).elim
    refine zg_swi 2 rfl rfl (fun k => rfl) (fun hc => ?_) (fun hc => ?_)
    ·
      exact (by omega : False).elim
    refine zg_swd rfl (by first | assumption | exact hA _ _ | exact hB _ _ | exact hC _ _ | exact zrg_max (by assumption) (hA _ _) | (constructor <;> omega)) (by omega) (fun k => rfl) ?_
    exact (by omega : False).elim
set_option maxRecDepth 10000 in
theorem zq_123l {d : Nat} {A B C : ZM} (hB : zRg B) (hC : zRg C) {t k : Int} (ht : 0 ≤ t ∧ t < 3) (hk : 1 ≤ k ∧ k ≤ 100) (hp2 : 0 ≤ B (60 + 17 * t) 2 ∧ B (60 + 17 * t) 2 < 100) (hvw : 0 ≤ B (56 + 17 * t) 7 ∧ B (56 + 17 * t) 7 < 31) (hld : B (56 + 17 * t) 7 % 3 = t) : XR (d + 2) 123 [.ref 107, zci (t), zci (k)] (zhp A (zmg B C)) (none, zhp A (zmg (zput B t k) C)) := by
  have hpt : zput B t k = zup (zup B (61 + 17 * t) (B (60 + 17 * t) 2) k) (60 + 17 * t) 2 (B (60 + 17 * t) 2 + 1) := if_pos hp2.2
  refine XR.of (Nat.le_of_ble_eq_true rfl) rfl ?_
  refine xg_step rfl rfl (fun k => rfl) ?_
  refine xg_get rfl rfl (zha (by decide)) zc_RefM rfl rfl ?_
  refine zg_bi rfl (by decide) ?_
  refine xg_step rfl rfl (fun k => rfl) ?_
  refine zg_mul rfl ?_
  refine xg_step rfl rfl (fun k => rfl) ?_
  refine xg_get rfl rfl (zha (by decide)) zc_RefM rfl rfl ?_
  refine xg_step rfl rfl (fun k => rfl) ?_
  refine zg_ald (.inl ⟨rfl, rfl⟩) (zha (by decide)) zc_r_prepared (by decide) ⟨by omega, by omega⟩ (zvB (zk_prepared (by omega)) (by omega)) ?_
  refine zg_add rfl ?_
  refine xg_step rfl rfl (fun k => rfl) ?_
  refine zg_ast (.inl ⟨rfl, rfl⟩) (zha (by decide)) zc_r_prepares (by decide) ⟨by omega, by omega⟩ (zhwB (zwB (zk_prepares (by omega) (by omega)) zw_r_prepares (by omega))) ?_
  refine xg_step rfl rfl (fun k => rfl) ?_
  refine xg_get rfl rfl (zha (by decide)) zc_RefM rfl rfl ?_
  refine xg_step rfl rfl (fun k => rfl) ?_
  refine xg_step rfl rfl (fun k => rfl) ?_
  refine zg_ald (x := B (60 + 17 * t) 2) (.inl ⟨rfl, rfl⟩) (zha (by decide)) zc_r_prepared (by decide) ⟨by omega, by omega⟩ ((zvB (zk_prepared (by omega)) (by omega)).trans (zup_ne (by omega))) ?_
  refine xg_step rfl rfl (fun k => rfl) ?_
  refine zg_add rfl ?_
  refine zg_ast (.inl ⟨rfl, rfl⟩) (zha (by decide)) zc_r_prepared (by decide) ⟨by omega, by omega⟩ (zhwB (zwB (zk_prepared (by omega)) zw_r_prepared (by omega))) ?_
  refine xg_step rfl rfl (fun k => rfl) ?_
  refine xg_get rfl rfl (zha (by decide)) zc_RefM rfl rfl ?_
  refine xg_step rfl rfl (fun k => rfl) ?_
  refine zg_ald (x := B (56 + 17 * t) 7) (.inl ⟨rfl, rfl⟩) (zha (by decide)) zc_r_view (by decide) ⟨by omega, by omega⟩ ((zvB (zk_view (by omega)) (by omega)).trans ((zup_ne (by omega)).trans (zup_ne (by omega)))) ?_
  refine xg_step rfl rfl (fun k => rfl) ?_
  refine zg_rem rfl (by omega) ?_
  refine xg_step rfl rfl (fun k => rfl) ?_
  refine zg_eq rfl rfl (fun x y k => rfl) (by first | assumption | exact hA _ _ | exact hB _ _ | exact hC _ _ | exact zrg_max (by assumption) (hA _ _) | (constructor <;> omega)) (by first | assumption | exact hA _ _ | exact hB _ _ | exact hC _ _ | exact zrg_max (by assumption) (hA _ _) | (constructor <;> omega)) (fun hc => ?_) (fun hc => ?_)
  ·
    refine zg_ret rfl rfl ?_
    first | exact (by omega : False).elim | rw [hpt]
  ·
    exact (by omega : False).elim
set_option maxRecDepth 10000 in
theorem zq_123n {d : Nat} {A B C : ZM} (hB : zRg B) (hC : zRg C) {t k : Int} (ht : 0 ≤ t ∧ t < 3) (hk : 1 ≤ k ∧ k ≤ 100) (hp2 : 0 ≤ B (60 + 17 * t) 2 ∧ B (60 + 17 * t) 2 < 100) (hvw : 0 ≤ B (56 + 17 * t) 7 ∧ B (56 + 17 * t) 7 < 31) (hld : ¬ B (56 + 17 * t) 7 % 3 = t) {B2 C2 : ZM} {rv : Int} (hmid : XR (d + 1) 121 [.ref 107, zci t, zci 1, zci (B (56 + 17 * t) 7), zci k, zci 0] (zhp A (zmg (zput B t k) C)) (some (zci rv), zhp A (zmg B2 C2))) : XR (d + 2) 123 [.ref 107, zci (t), zci (k)] (zhp A (zmg B C)) (none, zhp A (zmg B2 C2)) := by
  have hpt : zput B t k = zup (zup B (61 + 17 * t) (B (60 + 17 * t) 2) k) (60 + 17 * t) 2 (B (60 + 17 * t) 2 + 1) := if_pos hp2.2
  rw [hpt] at hmid
  refine XR.of (Nat.le_of_ble_eq_true rfl) rfl ?_
  refine xg_step rfl rfl (fun k => rfl) ?_
  refine xg_get rfl rfl (zha (by decide)) zc_RefM rfl rfl ?_
  refine zg_bi rfl (by decide) ?_
  refine xg_step rfl rfl (fun k => rfl) ?_
  refine zg_mul rfl ?_
  refine xg_step rfl rfl (fun k => rfl) ?_
  refine xg_get rfl rfl (zha (by decide)) zc_RefM rfl rfl ?_
  refine xg_step rfl rfl (fun k => rfl) ?_
  refine zg_ald (.inl ⟨rfl, rfl⟩) (zha (by decide)) zc_r_prepared (by decide) ⟨by omega, by omega⟩ (zvB (zk_prepared (by omega)) (by omega)) ?_
  refine zg_add rfl ?_
  refine xg_step rfl rfl (fun k => rfl) ?_
  refine zg_ast (.inl ⟨rfl, rfl⟩) (zha (by decide)) zc_r_prepares (by decide) ⟨by omega, by omega⟩ (zhwB (zwB (zk_prepares (by omega) (by omega)) zw_r_prepares (by omega))) ?_
  refine xg_step rfl rfl (fun k => rfl) ?_
  refine xg_get rfl rfl (zha (by decide)) zc_RefM rfl rfl ?_
  refine xg_step rfl rfl (fun k => rfl) ?_
  refine xg_step rfl rfl (fun k => rfl) ?_
  refine zg_ald (x := B (60 + 17 * t) 2) (.inl ⟨rfl, rfl⟩) (zha (by decide)) zc_r_prepared (by decide) ⟨by omega, by omega⟩ ((zvB (zk_prepared (by omega)) (by omega)).trans (zup_ne (by omega))) ?_
  refine xg_step rfl rfl (fun k => rfl) ?_
  refine zg_add rfl ?_
  refine zg_ast (.inl ⟨rfl, rfl⟩) (zha (by decide)) zc_r_prepared (by decide) ⟨by omega, by omega⟩ (zhwB (zwB (zk_prepared (by omega)) zw_r_prepared (by omega))) ?_
  refine xg_step rfl rfl (fun k => rfl) ?_
  refine xg_get rfl rfl (zha (by decide)) zc_RefM rfl rfl ?_
  refine xg_step rfl rfl (fun k => rfl) ?_
  refine zg_ald (x := B (56 + 17 * t) 7) (.inl ⟨rfl, rfl⟩) (zha (by decide)) zc_r_view (by decide) ⟨by omega, by omega⟩ ((zvB (zk_view (by omega)) (by omega)).trans ((zup_ne (by omega)).trans (zup_ne (by omega)))) ?_
  refine xg_step rfl rfl (fun k => rfl) ?_
  refine zg_rem rfl (by omega) ?_
  refine xg_step rfl rfl (fun k => rfl) ?_
  refine zg_eq rfl rfl (fun x y k => rfl) (by first | assumption | exact hA _ _ | exact hB _ _ | exact hC _ _ | exact zrg_max (by assumption) (hA _ _) | (constructor <;> omega)) (by first | assumption | exact hA _ _ | exact hB _ _ | exact hC _ _ | exact zrg_max (by assumption) (hA _ _) | (constructor <;> omega)) (fun hc => ?_) (fun hc => ?_)
  ·
    exact (by omega : False).elim
  ·
    refine xg_step rfl rfl (fun k => rfl) ?_
    refine xg_step rfl rfl (fun k => rfl) ?_
    refine xg_step rfl rfl (fun k => rfl) ?_
    refine xg_step rfl rfl (fun k => rfl) ?_
    refine xg_get rfl rfl (zha (by decide)) zc_RefM rfl rfl ?_
    refine xg_step rfl rfl (fun k => rfl) ?_
    refine zg_ald (x := B (56 + 17 * t) 7) (.inl ⟨rfl, rfl⟩) (zha (by decide)) zc_r_view (by decide) ⟨by omega, by omega⟩ ((zvB (zk_view (by omega)) (by omega)).trans ((zup_ne (by omega)).trans (zup_ne (by omega)))) ?_
    refine xg_step rfl rfl (fun k => rfl) ?_
    refine xg_step rfl rfl (fun k => rfl) ?_
    refine zg_cvi rfl rfl rfl (Nat.le_of_ble_eq_true rfl) (zha (by decide)) zc_RefM rfl rfl hmid ?_
    refine xg_step rfl rfl (fun k => rfl) ?_
    exact zg_ret rfl rfl rfl
set_option maxRecDepth 10000 in
theorem zq_124l {d : Nat} {A B C : ZM} (hB : zRg B) (hC : zRg C) {t k w : Int} (ht : 0 ≤ t ∧ t < 3) (hk : 1 ≤ k ∧ k ≤ 100) (hw : 0 ≤ w ∧ w < 31) (hld : w % 3 = t) : XR (d + 3) 124 [.ref 107, zci (t), zci (k), zci (w)] (zhp A (zmg B C)) (none, zhp A (zmg (zturn B t w 1) (zup C 140 t 0))) := by
  refine XR.of (Nat.le_of_ble_eq_true rfl) rfl ?_
  refine xg_step rfl rfl (fun k => rfl) ?_
  refine xg_step rfl rfl (fun k => rfl) ?_
  refine xg_step rfl rfl (fun k => rfl) ?_
  refine xg_step rfl rfl (fun k => rfl) ?_
  refine zg_cvv rfl rfl rfl (Nat.le_of_ble_eq_true rfl) (zha (by decide)) zc_RefM rfl rfl (zq_120 hB hC ht (by first | assumption | exact hA _ _ | exact hB _ _ | exact hC _ _ | exact zrg_max (by assumption) (hA _ _) | (constructor <;> omega)) (by omega)) ?_
  refine xg_step rfl rfl (fun k => rfl) ?_
  refine xg_step rfl rfl (fun k => rfl) ?_
  refine zg_rem rfl (by omega) ?_
  refine xg_step rfl rfl (fun k => rfl) ?_
  refine zg_eq rfl rfl (fun x y k => rfl) (by first | assumption | exact hA _ _ | exact hB _ _ | exact hC _ _ | exact zrg_max (by assumption) (hA _ _) | (constructor <;> omega)) (by first | assumption | exact hA _ _ | exact hB _ _ | exact hC _ _ | exact zrg_max (by assumption) (hA _ _) | (constructor <;> omega)) (fun hc => ?_) (fun hc => ?_)
  ·
    refine zg_ret rfl rfl ?_
    first | rfl | exact (by omega : False).elim
  ·
    exact (by omega : False).elim
set_option maxRecDepth 10000 in
theorem zq_124n {d : Nat} {A B C : ZM} (hB : zRg B) (hC : zRg C) {t k w : Int} (ht : 0 ≤ t ∧ t < 3) (hk : 1 ≤ k ∧ k ≤ 100) (hw : 0 ≤ w ∧ w < 31) (hld : ¬ w % 3 = t) {B2 C2 : ZM} {rv : Int} (hmid : XR (d + 2) 121 [.ref 107, zci t, zci 1, zci w, zci k, zci 0] (zhp A (zmg (zturn B t w 1) (zup C 140 t 0))) (some (zci rv), zhp A (zmg B2 C2))) : XR (d + 3) 124 [.ref 107, zci (t), zci (k), zci (w)] (zhp A (zmg B C)) (none, zhp A (zmg B2 C2)) := by
  refine XR.of (Nat.le_of_ble_eq_true rfl) rfl ?_
  refine xg_step rfl rfl (fun k => rfl) ?_
  refine xg_step rfl rfl (fun k => rfl) ?_
  refine xg_step rfl rfl (fun k => rfl) ?_
  refine xg_step rfl rfl (fun k => rfl) ?_
  refine zg_cvv rfl rfl rfl (Nat.le_of_ble_eq_true rfl) (zha (by decide)) zc_RefM rfl rfl (zq_120 hB hC ht (by first | assumption | exact hA _ _ | exact hB _ _ | exact hC _ _ | exact zrg_max (by assumption) (hA _ _) | (constructor <;> omega)) (by omega)) ?_
  refine xg_step rfl rfl (fun k => rfl) ?_
  refine xg_step rfl rfl (fun k => rfl) ?_
  refine zg_rem rfl (by omega) ?_
  refine xg_step rfl rfl (fun k => rfl) ?_
  refine zg_eq rfl rfl (fun x y k => rfl) (by first | assumption | exact hA _ _ | exact hB _ _ | exact hC _ _ | exact zrg_max (by assumption) (hA _ _) | (constructor <;> omega)) (by first | assumption | exact hA _ _ | exact hB _ _ | exact hC _ _ | exact zrg_max (by assumption) (hA _ _) | (constructor <;> omega)) (fun hc => ?_) (fun hc => ?_)
  ·
    exact (by omega : False).elim
  ·
    refine xg_step rfl rfl (fun k => rfl) ?_
    refine xg_step rfl rfl (fun k => rfl) ?_
    refine xg_step rfl rfl (fun k => rfl) ?_
    refine xg_step rfl rfl (fun k => rfl) ?_
    refine xg_step rfl rfl (fun k => rfl) ?_
    refine xg_step rfl rfl (fun k => rfl) ?_
    refine zg_cvi rfl rfl rfl (Nat.le_of_ble_eq_true rfl) (zha (by decide)) zc_RefM rfl rfl hmid ?_
    refine xg_step rfl rfl (fun k => rfl) ?_
    exact zg_ret rfl rfl rfl
