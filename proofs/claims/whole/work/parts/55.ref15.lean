/-! the reference: bring, request -/
set_option maxRecDepth 10000 in
theorem zql_133f {d : Nat} {A B C : ZM} (hB : zRg B) (hC : zRg C) {r t : Int} (hr : zrg r) (ht : 0 ≤ t ∧ t < 3) (hvw : 0 ≤ B (56 + 17 * t) 7 ∧ B (56 + 17 * t) 7 < 31) (hcn : 0 ≤ B (44 + 2 * t) 1 ∧ B (44 + 2 * t) 1 ≤ 100) {k : Int} (hk : 1 ≤ k ∧ k ≤ B (44 + 2 * t) 1 + 1) (hno : zex (zHP B t (B (56 + 17 * t) 7) r) (k - 1) = false) (hf : zex (zHP B t (B (56 + 17 * t) 7) r) (B (44 + 2 * t) 1) = true) : XG (d + 2) 133 64 [some (.ref 107), some (zci (r)), some (zci (t)), some (zci (k))] [] (zhp A (zmg B C)) (some (zci 0), zhp A (zmg B C)) := by
  refine xg_step rfl rfl (fun k => rfl) ?_
  refine xg_step rfl rfl (fun k => rfl) ?_
  refine xg_get rfl rfl (zha (by decide)) zc_RefM rfl rfl ?_
  refine xg_step rfl rfl (fun k => rfl) ?_
  refine zg_ald (.inl ⟨rfl, rfl⟩) (zha (by decide)) zc_r_many (by decide) ⟨by omega, by omega⟩ (zvB (zk_many (by omega)) (by omega)) ?_
  refine zg_gt rfl rfl (fun x y k => rfl) (by first | assumption | exact hA _ _ | exact hB _ _ | exact hC _ _ | exact zrg_max (by assumption) (hA _ _) | (constructor <;> omega)) (by first | assumption | exact hA _ _ | exact hB _ _ | exact hC _ _ | exact zrg_max (by assumption) (hA _ _) | (constructor <;> omega)) (fun hc => ?_) (fun hc => ?_)
  ·
    exact (zex_n hno (by omega) hf).elim
  ·
    refine xg_step rfl rfl (fun k => rfl) ?_
    refine xg_get rfl rfl (zha (by decide)) zc_RefM rfl rfl ?_
    refine xg_step rfl rfl (fun k => rfl) ?_
    refine xg_step rfl rfl (fun k => rfl) ?_
    refine zg_csi rfl rfl (by decide) rfl rfl (Nat.le_of_ble_eq_true rfl) rfl (zq_106 hB hC) ?_
    refine zg_ald (.inl ⟨rfl, rfl⟩) (zha (by decide)) zc_r_kinds (by decide) ⟨by omega, by omega⟩ (zvB (zk_kinds (by omega) (by omega)) (by omega)) ?_
    refine zg_eq0 rfl rfl (fun x k => rfl) (by first | assumption | exact hA _ _ | exact hB _ _ | exact hC _ _ | exact zrg_max (by assumption) (hA _ _) | (constructor <;> omega)) (fun hc => ?_) (fun hc => ?_)
    ·
      refine xg_step rfl rfl (fun k => rfl) ?_
      refine xg_get rfl rfl (zha (by decide)) zc_RefM rfl rfl ?_
      refine xg_step rfl rfl (fun k => rfl) ?_
      refine xg_step rfl rfl (fun k => rfl) ?_
      refine zg_csi rfl rfl (by decide) rfl rfl (Nat.le_of_ble_eq_true rfl) rfl (zq_106 hB hC) ?_
      refine zg_ald (.inl ⟨rfl, rfl⟩) (zha (by decide)) zc_r_views (by decide) ⟨by omega, by omega⟩ (zvB (zk_views (by omega) (by omega)) (by omega)) ?_
      refine xg_step rfl rfl (fun k => rfl) ?_
      refine xg_get rfl rfl (zha (by decide)) zc_RefM rfl rfl ?_
      refine xg_step rfl rfl (fun k => rfl) ?_
      refine zg_ald (.inl ⟨rfl, rfl⟩) (zha (by decide)) zc_r_view (by decide) ⟨by omega, by omega⟩ (zvB (zk_view (by omega)) (by omega)) ?_
      refine zg_eq rfl rfl (fun x y k => rfl) (by first | assumption | exact hA _ _ | exact hB _ _ | exact hC _ _ | exact zrg_max (by assumption) (hA _ _) | (constructor <;> omega)) (by first | assumption | exact hA _ _ | exact hB _ _ | exact hC _ _ | exact zrg_max (by assumption) (hA _ _) | (constructor <;> omega)) (fun hc => ?_) (fun hc => ?_)
      ·
        refine xg_step rfl rfl (fun k => rfl) ?_
        refine xg_get rfl rfl (zha (by decide)) zc_RefM rfl rfl ?_
        refine xg_step rfl rfl (fun k => rfl) ?_
        refine xg_step rfl rfl (fun k => rfl) ?_
        refine zg_csi rfl rfl (by decide) rfl rfl (Nat.le_of_ble_eq_true rfl) rfl (zq_106 hB hC) ?_
        refine zg_ald (.inl ⟨rfl, rfl⟩) (zha (by decide)) zc_r_as (by decide) ⟨by omega, by omega⟩ (zvB (zk_as (by omega) (by omega)) (by omega)) ?_
        refine xg_step rfl rfl (fun k => rfl) ?_
        refine zg_eq rfl rfl (fun x y k => rfl) (by first | assumption | exact hA _ _ | exact hB _ _ | exact hC _ _ | exact zrg_max (by assumption) (hA _ _) | (constructor <;> omega)) (by first | assumption | exact hA _ _ | exact hB _ _ | exact hC _ _ | exact zrg_max (by assumption) (hA _ _) | (constructor <;> omega)) (fun hc => ?_) (fun hc => ?_)
        ·
          refine xg_step rfl rfl (fun k => rfl) ?_
          refine zg_iret rfl rfl zfitI ?_
          rfl
        ·
          refine zg_inc rfl rfl rfl rfl ?_
          refine xg_step rfl rfl (fun k => rfl) ?_
          exact zql_133f hB hC hr ht hvw hcn (k := k + 1) (by omega) (zex_f hk.1 hno (decide_eq_false (by omega))) hf
      ·
        refine zg_inc rfl rfl rfl rfl ?_
        refine xg_step rfl rfl (fun k => rfl) ?_
        exact zql_133f hB hC hr ht hvw hcn (k := k + 1) (by omega) (zex_f hk.1 hno (decide_eq_false (by omega))) hf
    ·
      refine zg_inc rfl rfl rfl rfl ?_
      refine xg_step rfl rfl (fun k => rfl) ?_
      exact zql_133f hB hC hr ht hvw hcn (k := k + 1) (by omega) (zex_f hk.1 hno (decide_eq_false (by omega))) hf
termination_by (B (44 + 2 * t) 1 + 1 - k).toNat
decreasing_by all_goals omega
set_option maxRecDepth 10000 in
theorem zql_133n {d : Nat} {A B C : ZM} (hB : zRg B) (hC : zRg C) {r t : Int} (hr : zrg r) (ht : 0 ≤ t ∧ t < 3) (hvw : 0 ≤ B (56 + 17 * t) 7 ∧ B (56 + 17 * t) 7 < 31) (hcn : 0 ≤ B (44 + 2 * t) 1 ∧ B (44 + 2 * t) 1 ≤ 100) {k : Int} (hk : 1 ≤ k ∧ k ≤ B (44 + 2 * t) 1 + 1) (hno : zex (zHP B t (B (56 + 17 * t) 7) r) (k - 1) = false) (hf : zex (zHP B t (B (56 + 17 * t) 7) r) (B (44 + 2 * t) 1) = false) {rr : Option Value × XS} (hx : ∀ k1, XG (d + 2) 133 128 [some (.ref 107), some (zci r), some (zci t), some (zci k1)] [] (zhp A (zmg B C)) rr) : XG (d + 2) 133 64 [some (.ref 107), some (zci (r)), some (zci (t)), some (zci (k))] [] (zhp A (zmg B C)) rr := by
  refine xg_step rfl rfl (fun k => rfl) ?_
  refine xg_step rfl rfl (fun k => rfl) ?_
  refine xg_get rfl rfl (zha (by decide)) zc_RefM rfl rfl ?_
  refine xg_step rfl rfl (fun k => rfl) ?_
  refine zg_ald (.inl ⟨rfl, rfl⟩) (zha (by decide)) zc_r_many (by decide) ⟨by omega, by omega⟩ (zvB (zk_many (by omega)) (by omega)) ?_
  refine zg_gt rfl rfl (fun x y k => rfl) (by first | assumption | exact hA _ _ | exact hB _ _ | exact hC _ _ | exact zrg_max (by assumption) (hA _ _) | (constructor <;> omega)) (by first | assumption | exact hA _ _ | exact hB _ _ | exact hC _ _ | exact zrg_max (by assumption) (hA _ _) | (constructor <;> omega)) (fun hc => ?_) (fun hc => ?_)
  ·
    exact hx _
  ·
    refine xg_step rfl rfl (fun k => rfl) ?_
    refine xg_get rfl rfl (zha (by decide)) zc_RefM rfl rfl ?_
    refine xg_step rfl rfl (fun k => rfl) ?_
    refine xg_step rfl rfl (fun k => rfl) ?_
    refine zg_csi rfl rfl (by decide) rfl rfl (Nat.le_of_ble_eq_true rfl) rfl (zq_106 hB hC) ?_
    refine zg_ald (.inl ⟨rfl, rfl⟩) (zha (by decide)) zc_r_kinds (by decide) ⟨by omega, by omega⟩ (zvB (zk_kinds (by omega) (by omega)) (by omega)) ?_
    refine zg_eq0 rfl rfl (fun x k => rfl) (by first | assumption | exact hA _ _ | exact hB _ _ | exact hC _ _ | exact zrg_max (by assumption) (hA _ _) | (constructor <;> omega)) (fun hc => ?_) (fun hc => ?_)
    ·
      refine xg_step rfl rfl (fun k => rfl) ?_
      refine xg_get rfl rfl (zha (by decide)) zc_RefM rfl rfl ?_
      refine xg_step rfl rfl (fun k => rfl) ?_
      refine xg_step rfl rfl (fun k => rfl) ?_
      refine zg_csi rfl rfl (by decide) rfl rfl (Nat.le_of_ble_eq_true rfl) rfl (zq_106 hB hC) ?_
      refine zg_ald (.inl ⟨rfl, rfl⟩) (zha (by decide)) zc_r_views (by decide) ⟨by omega, by omega⟩ (zvB (zk_views (by omega) (by omega)) (by omega)) ?_
      refine xg_step rfl rfl (fun k => rfl) ?_
      refine xg_get rfl rfl (zha (by decide)) zc_RefM rfl rfl ?_
      refine xg_step rfl rfl (fun k => rfl) ?_
      refine zg_ald (.inl ⟨rfl, rfl⟩) (zha (by decide)) zc_r_view (by decide) ⟨by omega, by omega⟩ (zvB (zk_view (by omega)) (by omega)) ?_
      refine zg_eq rfl rfl (fun x y k => rfl) (by first | assumption | exact hA _ _ | exact hB _ _ | exact hC _ _ | exact zrg_max (by assumption) (hA _ _) | (constructor <;> omega)) (by first | assumption | exact hA _ _ | exact hB _ _ | exact hC _ _ | exact zrg_max (by assumption) (hA _ _) | (constructor <;> omega)) (fun hc => ?_) (fun hc => ?_)
      ·
        refine xg_step rfl rfl (fun k => rfl) ?_
        refine xg_get rfl rfl (zha (by decide)) zc_RefM rfl rfl ?_
        refine xg_step rfl rfl (fun k => rfl) ?_
        refine xg_step rfl rfl (fun k => rfl) ?_
        refine zg_csi rfl rfl (by decide) rfl rfl (Nat.le_of_ble_eq_true rfl) rfl (zq_106 hB hC) ?_
        refine zg_ald (.inl ⟨rfl, rfl⟩) (zha (by decide)) zc_r_as (by decide) ⟨by omega, by omega⟩ (zvB (zk_as (by omega) (by omega)) (by omega)) ?_
        refine xg_step rfl rfl (fun k => rfl) ?_
        refine zg_eq rfl rfl (fun x y k => rfl) (by first | assumption | exact hA _ _ | exact hB _ _ | exact hC _ _ | exact zrg_max (by assumption) (hA _ _) | (constructor <;> omega)) (by first | assumption | exact hA _ _ | exact hB _ _ | exact hC _ _ | exact zrg_max (by assumption) (hA _ _) | (constructor <;> omega)) (fun hc => ?_) (fun hc => ?_)
        ·
          exact absurd ((zex_t (p := zHP B t (B (56 + 17 * t) 7) r) (n := B (44 + 2 * t) 1) k (by omega) (by omega) (decide_eq_true (by omega))).symm.trans hf) (by decide)
        ·
          refine zg_inc rfl rfl rfl rfl ?_
          refine xg_step rfl rfl (fun k => rfl) ?_
          exact zql_133n hB hC hr ht hvw hcn (k := k + 1) (by omega) (zex_f hk.1 hno (decide_eq_false (by omega))) hf hx
      ·
        refine zg_inc rfl rfl rfl rfl ?_
        refine xg_step rfl rfl (fun k => rfl) ?_
        exact zql_133n hB hC hr ht hvw hcn (k := k + 1) (by omega) (zex_f hk.1 hno (decide_eq_false (by omega))) hf hx
    ·
      refine zg_inc rfl rfl rfl rfl ?_
      refine xg_step rfl rfl (fun k => rfl) ?_
      exact zql_133n hB hC hr ht hvw hcn (k := k + 1) (by omega) (zex_f hk.1 hno (decide_eq_false (by omega))) hf hx
termination_by (B (44 + 2 * t) 1 + 1 - k).toNat
decreasing_by all_goals omega
set_option maxRecDepth 10000 in
theorem zo_133a {d : Nat} {A B C : ZM} (hB : zRg B) (hC : zRg C) {r t : Int} (hr : zrg r) (htr : zrg t) (h1 : ¬ ((0 ≤ r ∧ r < B 1 6) ∧ (0 ≤ t ∧ t < 3))) : XR (d + 2) 133 [.ref 107, zci (r), zci (t)] (zhp A (zmg B C)) (some (zci 0), zhp A (zmg B (zup C 107 0 1))) := by
  refine XR.of (Nat.le_of_ble_eq_true rfl) rfl ?_
  refine xg_step rfl rfl (fun k => rfl) ?_
  refine xg_step rfl rfl (fun k => rfl) ?_
  refine xg_step rfl rfl (fun k => rfl) ?_
  refine zg_cvb rfl rfl rfl (Nat.le_of_ble_eq_true rfl) (zha (by decide)) zc_RefM rfl rfl (zq_131 hB hC (by first | assumption | exact hA _ _ | exact hB _ _ | exact hC _ _ | exact zrg_max (by assumption) (hA _ _) | (constructor <;> omega))) (fun hc => ?_) (fun hc => ?_)
  ·
    refine xg_step rfl rfl (fun k => rfl) ?_
    refine xg_step rfl rfl (fun k => rfl) ?_
    refine zg_csb rfl rfl (by decide) rfl rfl (Nat.le_of_ble_eq_true rfl) rfl (zq_130 hB hC (by first | assumption | exact hA _ _ | exact hB _ _ | exact hC _ _ | exact zrg_max (by assumption) (hA _ _) | (constructor <;> omega))) (fun hc => ?_) (fun hc => ?_)
    ·
      refine xg_step rfl rfl (fun k => rfl) ?_
      refine xg_step rfl rfl (fun k => rfl) ?_
      refine xg_step rfl rfl (fun k => rfl) ?_
      refine zg_cvi rfl rfl rfl (Nat.le_of_ble_eq_true rfl) (zha (by decide)) zc_RefM rfl rfl zq_132f ?_
      refine xg_step rfl rfl (fun k => rfl) ?_
      exact (by omega : False).elim
    ·
      refine xg_step rfl rfl (fun k => rfl) ?_
      refine xg_step rfl rfl (fun k => rfl) ?_
      refine xg_step rfl rfl (fun k => rfl) ?_
      refine xg_step rfl rfl (fun k => rfl) ?_
      refine zg_cvi rfl rfl rfl (Nat.le_of_ble_eq_true rfl) (zha (by decide)) zc_RefM rfl rfl zq_132t ?_
      refine xg_step rfl rfl (fun k => rfl) ?_
      refine xg_step rfl rfl (fun k => rfl) ?_
      refine zg_iret rfl rfl zfitI ?_
      first | rfl | exact (by omega : False).elim
  ·
    refine xg_step rfl rfl (fun k => rfl) ?_
    refine xg_step rfl rfl (fun k => rfl) ?_
    refine xg_step rfl rfl (fun k => rfl) ?_
    refine xg_step rfl rfl (fun k => rfl) ?_
    refine zg_cvi rfl rfl rfl (Nat.le_of_ble_eq_true rfl) (zha (by decide)) zc_RefM rfl rfl zq_132t ?_
    refine xg_step rfl rfl (fun k => rfl) ?_
    refine xg_step rfl rfl (fun k => rfl) ?_
    refine zg_iret rfl rfl zfitI ?_
    first | rfl | exact (by omega : False).elim
set_option maxRecDepth 10000 in
theorem zo_133l {d : Nat} {A B C : ZM} (hB : zRg B) (hC : zRg C) {r t : Int} (hr : zrg r) (htr : zrg t) (h1 : 0 ≤ r ∧ r < B 1 6) (ht : 0 ≤ t ∧ t < 3) (hvw : 0 ≤ B (56 + 17 * t) 7 ∧ B (56 + 17 * t) 7 < 31) (h2 : ¬ B (56 + 17 * t) 9 = 0 ∨ B (56 + 17 * t) 8 = 0 ∨ ¬ B (56 + 17 * t) 7 % 3 = t) : XR (d + 2) 133 [.ref 107, zci (r), zci (t)] (zhp A (zmg B C)) (some (zci 0), zhp A (zmg B (zup C 107 0 0))) := by
  refine XR.of (Nat.le_of_ble_eq_true rfl) rfl ?_
  refine xg_step rfl rfl (fun k => rfl) ?_
  refine xg_step rfl rfl (fun k => rfl) ?_
  refine xg_step rfl rfl (fun k => rfl) ?_
  refine zg_cvb rfl rfl rfl (Nat.le_of_ble_eq_true rfl) (zha (by decide)) zc_RefM rfl rfl (zq_131 hB hC (by first | assumption | exact hA _ _ | exact hB _ _ | exact hC _ _ | exact zrg_max (by assumption) (hA _ _) | (constructor <;> omega))) (fun hc => ?_) (fun hc => ?_)
  ·
    refine xg_step rfl rfl (fun k => rfl) ?_
    refine xg_step rfl rfl (fun k => rfl) ?_
    refine zg_csb rfl rfl (by decide) rfl rfl (Nat.le_of_ble_eq_true rfl) rfl (zq_130 hB hC (by first | assumption | exact hA _ _ | exact hB _ _ | exact hC _ _ | exact zrg_max (by assumption) (hA _ _) | (constructor <;> omega))) (fun hc => ?_) (fun hc => ?_)
    ·
      refine xg_step rfl rfl (fun k => rfl) ?_
      refine xg_step rfl rfl (fun k => rfl) ?_
      refine xg_step rfl rfl (fun k => rfl) ?_
      refine zg_cvi rfl rfl rfl (Nat.le_of_ble_eq_true rfl) (zha (by decide)) zc_RefM rfl rfl zq_132f ?_
      refine xg_step rfl rfl (fun k => rfl) ?_
      refine xg_step rfl rfl (fun k => rfl) ?_
      refine xg_get rfl rfl (zha (by decide)) zc_RefM rfl rfl ?_
      refine xg_step rfl rfl (fun k => rfl) ?_
      refine zg_ald (.inr ⟨rfl, rfl⟩) (zha (by decide)) zc_r_lied (by decide) ⟨by omega, by omega⟩ (zvB (zk_lied (by omega)) (by omega)) ?_
      refine zg_eq0 rfl rfl (fun x k => rfl) (by first | assumption | exact hA _ _ | exact hB _ _ | exact hC _ _ | exact zrg_max (by assumption) (hA _ _) | (constructor <;> omega)) (fun hc => ?_) (fun hc => ?_)
      ·
        refine xg_step rfl rfl (fun k => rfl) ?_
        refine xg_get rfl rfl (zha (by decide)) zc_RefM rfl rfl ?_
        refine xg_step rfl rfl (fun k => rfl) ?_
        refine zg_ald (.inr ⟨rfl, rfl⟩) (zha (by decide)) zc_r_active (by decide) ⟨by omega, by omega⟩ (zvB (zk_active (by omega)) (by omega)) ?_
        refine zg_eq0 rfl rfl (fun x k => rfl) (by first | assumption | exact hA _ _ | exact hB _ _ | exact hC _ _ | exact zrg_max (by assumption) (hA _ _) | (constructor <;> omega)) (fun hc => ?_) (fun hc => ?_)
        ·
          refine xg_step rfl rfl (fun k => rfl) ?_
          refine zg_iret rfl rfl zfitI ?_
          first | rfl | exact (by omega : False).elim
        ·
          refine xg_step rfl rfl (fun k => rfl) ?_
          refine xg_get rfl rfl (zha (by decide)) zc_RefM rfl rfl ?_
          refine xg_step rfl rfl (fun k => rfl) ?_
          refine zg_ald (.inl ⟨rfl, rfl⟩) (zha (by decide)) zc_r_view (by decide) ⟨by omega, by omega⟩ (zvB (zk_view (by omega)) (by omega)) ?_
          refine xg_step rfl rfl (fun k => rfl) ?_
          refine zg_rem rfl (by omega) ?_
          refine xg_step rfl rfl (fun k => rfl) ?_
          refine zg_eq rfl rfl (fun x y k => rfl) (by first | assumption | exact hA _ _ | exact hB _ _ | exact hC _ _ | exact zrg_max (by assumption) (hA _ _) | (constructor <;> omega)) (by first | assumption | exact hA _ _ | exact hB _ _ | exact hC _ _ | exact zrg_max (by assumption) (hA _ _) | (constructor <;> omega)) (fun hc => ?_) (fun hc => ?_)
          ·
            exact (by omega : False).elim
          ·
            refine xg_step rfl rfl (fun k => rfl) ?_
            refine zg_iret rfl rfl zfitI ?_
            first | rfl | exact (by omega : False).elim
      ·
        refine xg_step rfl rfl (fun k => rfl) ?_
        refine zg_iret rfl rfl zfitI ?_
        first | rfl | exact (by omega : False).elim
    ·
      refine xg_step rfl rfl (fun k => rfl) ?_
      refine xg_step rfl rfl (fun k => rfl) ?_
      refine xg_step rfl rfl (fun k => rfl) ?_
      refine xg_step rfl rfl (fun k => rfl) ?_
      refine zg_cvi rfl rfl rfl (Nat.le_of_ble_eq_true rfl) (zha (by decide)) zc_RefM rfl rfl zq_132t ?_
      refine xg_step rfl rfl (fun k => rfl) ?_
      refine xg_step rfl rfl (fun k => rfl) ?_
      refine zg_iret rfl rfl zfitI ?_
      first | rfl | exact (by omega : False).elim
  ·
    refine xg_step rfl rfl (fun k => rfl) ?_
    refine xg_step rfl rfl (fun k => rfl) ?_
    refine xg_step rfl rfl (fun k => rfl) ?_
    refine xg_step rfl rfl (fun k => rfl) ?_
    refine zg_cvi rfl rfl rfl (Nat.le_of_ble_eq_true rfl) (zha (by decide)) zc_RefM rfl rfl zq_132t ?_
    refine xg_step rfl rfl (fun k => rfl) ?_
    refine xg_step rfl rfl (fun k => rfl) ?_
    refine zg_iret rfl rfl zfitI ?_
    first | rfl | exact (by omega : False).elim
set_option maxRecDepth 10000 in
theorem zo_133f {d : Nat} {A B C : ZM} (hB : zRg B) (hC : zRg C) {r t : Int} (hr : zrg r) (htr : zrg t) (h1 : 0 ≤ r ∧ r < B 1 6) (ht : 0 ≤ t ∧ t < 3) (hvw : 0 ≤ B (56 + 17 * t) 7 ∧ B (56 + 17 * t) 7 < 31) (h2 : B (56 + 17 * t) 9 = 0) (h3 : ¬ B (56 + 17 * t) 8 = 0) (h4 : B (56 + 17 * t) 7 % 3 = t) (hcn : 0 ≤ B (44 + 2 * t) 1 ∧ B (44 + 2 * t) 1 ≤ 100) (hf : zex (zHP B t (B (56 + 17 * t) 7) r) (B (44 + 2 * t) 1) = true) : XR (d + 3) 133 [.ref 107, zci (r), zci (t)] (zhp A (zmg B C)) (some (zci 0), zhp A (zmg B (zup C 107 0 0))) := by
  have hC0 : zRg (zup C 107 0 0) := zRg_up hC ⟨by decide, by decide⟩
  refine XR.of (Nat.le_of_ble_eq_true rfl) rfl ?_
  refine xg_step rfl rfl (fun k => rfl) ?_
  refine xg_step rfl rfl (fun k => rfl) ?_
  refine xg_step rfl rfl (fun k => rfl) ?_
  refine zg_cvb rfl rfl rfl (Nat.le_of_ble_eq_true rfl) (zha (by decide)) zc_RefM rfl rfl (zq_131 hB hC (by first | assumption | exact hA _ _ | exact hB _ _ | exact hC _ _ | exact zrg_max (by assumption) (hA _ _) | (constructor <;> omega))) (fun hc => ?_) (fun hc => ?_)
  ·
    refine xg_step rfl rfl (fun k => rfl) ?_
    refine xg_step rfl rfl (fun k => rfl) ?_
    refine zg_csb rfl rfl (by decide) rfl rfl (Nat.le_of_ble_eq_true rfl) rfl (zq_130 hB hC (by first | assumption | exact hA _ _ | exact hB _ _ | exact hC _ _ | exact zrg_max (by assumption) (hA _ _) | (constructor <;> omega))) (fun hc => ?_) (fun hc => ?_)
    ·
      refine xg_step rfl rfl (fun k => rfl) ?_
      refine xg_step rfl rfl (fun k => rfl) ?_
      refine xg_step rfl rfl (fun k => rfl) ?_
      refine zg_cvi rfl rfl rfl (Nat.le_of_ble_eq_true rfl) (zha (by decide)) zc_RefM rfl rfl zq_132f ?_
      refine xg_step rfl rfl (fun k => rfl) ?_
      refine xg_step rfl rfl (fun k => rfl) ?_
      refine xg_get rfl rfl (zha (by decide)) zc_RefM rfl rfl ?_
      refine xg_step rfl rfl (fun k => rfl) ?_
      refine zg_ald (.inr ⟨rfl, rfl⟩) (zha (by decide)) zc_r_lied (by decide) ⟨by omega, by omega⟩ (zvB (zk_lied (by omega)) (by omega)) ?_
      refine zg_eq0 rfl rfl (fun x k => rfl) (by first | assumption | exact hA _ _ | exact hB _ _ | exact hC _ _ | exact zrg_max (by assumption) (hA _ _) | (constructor <;> omega)) (fun hc => ?_) (fun hc => ?_)
      ·
        refine xg_step rfl rfl (fun k => rfl) ?_
        refine xg_get rfl rfl (zha (by decide)) zc_RefM rfl rfl ?_
        refine xg_step rfl rfl (fun k => rfl) ?_
        refine zg_ald (.inr ⟨rfl, rfl⟩) (zha (by decide)) zc_r_active (by decide) ⟨by omega, by omega⟩ (zvB (zk_active (by omega)) (by omega)) ?_
        refine zg_eq0 rfl rfl (fun x k => rfl) (by first | assumption | exact hA _ _ | exact hB _ _ | exact hC _ _ | exact zrg_max (by assumption) (hA _ _) | (constructor <;> omega)) (fun hc => ?_) (fun hc => ?_)
        ·
          exact (by omega : False).elim
        ·
          refine xg_step rfl rfl (fun k => rfl) ?_
          refine xg_get rfl rfl (zha (by decide)) zc_RefM rfl rfl ?_
          refine xg_step rfl rfl (fun k => rfl) ?_
          refine zg_ald (.inl ⟨rfl, rfl⟩) (zha (by decide)) zc_r_view (by decide) ⟨by omega, by omega⟩ (zvB (zk_view (by omega)) (by omega)) ?_
          refine xg_step rfl rfl (fun k => rfl) ?_
          refine zg_rem rfl (by omega) ?_
          refine xg_step rfl rfl (fun k => rfl) ?_
          refine zg_eq rfl rfl (fun x y k => rfl) (by first | assumption | exact hA _ _ | exact hB _ _ | exact hC _ _ | exact zrg_max (by assumption) (hA _ _) | (constructor <;> omega)) (by first | assumption | exact hA _ _ | exact hB _ _ | exact hC _ _ | exact zrg_max (by assumption) (hA _ _) | (constructor <;> omega)) (fun hc => ?_) (fun hc => ?_)
          ·
            refine xg_step rfl rfl (fun k => rfl) ?_
            refine xg_step rfl rfl (fun k => rfl) ?_
            exact zql_133f hB hC0 hr ht hvw hcn (k := 1) (by omega) (zex_0 (by omega)) hf
          ·
            exact (by omega : False).elim
      ·
        exact (by omega : False).elim
    ·
      refine xg_step rfl rfl (fun k => rfl) ?_
      refine xg_step rfl rfl (fun k => rfl) ?_
      refine xg_step rfl rfl (fun k => rfl) ?_
      refine xg_step rfl rfl (fun k => rfl) ?_
      refine zg_cvi rfl rfl rfl (Nat.le_of_ble_eq_true rfl) (zha (by decide)) zc_RefM rfl rfl zq_132t ?_
      refine xg_step rfl rfl (fun k => rfl) ?_
      refine xg_step rfl rfl (fun k => rfl) ?_
      refine zg_iret rfl rfl zfitI ?_
      first | rfl | exact (by omega : False).elim
  ·
    refine xg_step rfl rfl (fun k => rfl) ?_
    refine xg_step rfl rfl (fun k => rfl) ?_
    refine xg_step rfl rfl (fun k => rfl) ?_
    refine xg_step rfl rfl (fun k => rfl) ?_
    refine zg_cvi rfl rfl rfl (Nat.le_of_ble_eq_true rfl) (zha (by decide)) zc_RefM rfl rfl zq_132t ?_
    refine xg_step rfl rfl (fun k => rfl) ?_
    refine xg_step rfl rfl (fun k => rfl) ?_
    refine zg_iret rfl rfl zfitI ?_
    first | rfl | exact (by omega : False).elim
set_option maxRecDepth 10000 in
theorem zm_133 {d : Nat} {A B C : ZM} (hB : zRg B) (hC : zRg C) {r t k1 : Int} (ht : 0 ≤ t ∧ t < 3) (hvw : 0 ≤ B (56 + 17 * t) 7 ∧ B (56 + 17 * t) 7 < 31) {B2 C2 B3 C3 : ZM} {rv n : Int} (hrv : -1 ≤ rv ∧ rv ≤ 1000) (hm1 : XR (d + 2) 121 [.ref 107, zci t, zci 0, zci (B (56 + 17 * t) 7), zci r, zci 0] (zhp A (zmg B C)) (some (zci rv), zhp A (zmg B2 C2))) (hm2 : XR (d + 2) 128 [.ref 107, zci t] (zhp A (zmg B2 C2)) (some (zci n), zhp A (zmg B3 C3))) : XG (d + 2) 133 128 [some (.ref 107), some (zci (r)), some (zci (t)), some (zci (k1))] [] (zhp A (zmg B C)) (some (zci (if rv = -1 then 0 else 1)), zhp A (zmg B3 C3)) := by
  refine xg_step rfl rfl (fun k => rfl) ?_
  refine xg_step rfl rfl (fun k => rfl) ?_
  refine xg_step rfl rfl (fun k => rfl) ?_
  refine xg_step rfl rfl (fun k => rfl) ?_
  refine xg_get rfl rfl (zha (by decide)) zc_RefM rfl rfl ?_
  refine xg_step rfl rfl (fun k => rfl) ?_
  refine zg_ald (.inl ⟨rfl, rfl⟩) (zha (by decide)) zc_r_view (by decide) ⟨by omega, by omega⟩ (zvB (zk_view (by omega)) (by omega)) ?_
  refine xg_step rfl rfl (fun k => rfl) ?_
  refine xg_step rfl rfl (fun k => rfl) ?_
  refine zg_cvi rfl rfl rfl (Nat.le_of_ble_eq_true rfl) (zha (by decide)) zc_RefM rfl rfl hm1 ?_
  refine xg_step rfl rfl (fun k => rfl) ?_
  refine xg_step rfl rfl (fun k => rfl) ?_
  refine xg_step rfl rfl (fun k => rfl) ?_
  refine zg_cvi rfl rfl rfl (Nat.le_of_ble_eq_true rfl) (zha (by decide)) zc_RefM rfl rfl hm2 ?_
  refine xg_step rfl rfl (fun k => rfl) ?_
  refine xg_step rfl rfl (fun k => rfl) ?_
  refine xg_step rfl rfl (fun k => rfl) ?_
  refine zg_eq rfl rfl (fun x y k => rfl) (by first | assumption | exact hA _ _ | exact hB _ _ | exact hC _ _ | exact zrg_max (by assumption) (hA _ _) | (constructor <;> omega)) (by first | assumption | exact hA _ _ | exact hB _ _ | exact hC _ _ | exact zrg_max (by assumption) (hA _ _) | (constructor <;> omega)) (fun hc => ?_) (fun hc => ?_)
  ·
    refine xg_step rfl rfl (fun k => rfl) ?_
    refine xg_step rfl rfl (fun k => rfl) ?_
    refine zg_iret rfl rfl zfitI ?_
    first | exact zli (by omega) | exact zle (by omega)
  ·
    refine xg_step rfl rfl (fun k => rfl) ?_
    refine zg_iret rfl rfl zfitI ?_
    first | exact zli (by omega) | exact zle (by omega)
set_option maxRecDepth 10000 in
theorem zo_133 {d : Nat} {A B C : ZM} (hB : zRg B) (hC : zRg C) {r t : Int} (hr : zrg r) (htr : zrg t) (h1 : 0 ≤ r ∧ r < B 1 6) (ht : 0 ≤ t ∧ t < 3) (hvw : 0 ≤ B (56 + 17 * t) 7 ∧ B (56 + 17 * t) 7 < 31) (h2 : B (56 + 17 * t) 9 = 0) (h3 : ¬ B (56 + 17 * t) 8 = 0) (h4 : B (56 + 17 * t) 7 % 3 = t) (hcn : 0 ≤ B (44 + 2 * t) 1 ∧ B (44 + 2 * t) 1 ≤ 100) (hf : zex (zHP B t (B (56 + 17 * t) 7) r) (B (44 + 2 * t) 1) = false) {B2 C2 B3 C3 : ZM} {rv n : Int} (hrv : -1 ≤ rv ∧ rv ≤ 1000) (hm1 : XR (d + 2) 121 [.ref 107, zci t, zci 0, zci (B (56 + 17 * t) 7), zci r, zci 0] (zhp A (zmg B (zup C 107 0 0))) (some (zci rv), zhp A (zmg B2 C2))) (hm2 : XR (d + 2) 128 [.ref 107, zci t] (zhp A (zmg B2 C2)) (some (zci n), zhp A (zmg B3 C3))) : XR (d + 3) 133 [.ref 107, zci (r), zci (t)] (zhp A (zmg B C)) (some (zci (if rv = -1 then 0 else 1)), zhp A (zmg B3 C3)) := by
  have hC0 : zRg (zup C 107 0 0) := zRg_up hC ⟨by decide, by decide⟩
  refine XR.of (Nat.le_of_ble_eq_true rfl) rfl ?_
  refine xg_step rfl rfl (fun k => rfl) ?_
  refine xg_step rfl rfl (fun k => rfl) ?_
  refine xg_step rfl rfl (fun k => rfl) ?_
  refine zg_cvb rfl rfl rfl (Nat.le_of_ble_eq_true rfl) (zha (by decide)) zc_RefM rfl rfl (zq_131 hB hC (by first | assumption | exact hA _ _ | exact hB _ _ | exact hC _ _ | exact zrg_max (by assumption) (hA _ _) | (constructor <;> omega))) (fun hc => ?_) (fun hc => ?_)
  ·
    refine xg_step rfl rfl (fun k => rfl) ?_
    refine xg_step rfl rfl (fun k => rfl) ?_
    refine zg_csb rfl rfl (by decide) rfl rfl (Nat.le_of_ble_eq_true rfl) rfl (zq_130 hB hC (by first | assumption | exact hA _ _ | exact hB _ _ | exact hC _ _ | exact zrg_max (by assumption) (hA _ _) | (constructor <;> omega))) (fun hc => ?_) (fun hc => ?_)
    ·
      refine xg_step rfl rfl (fun k => rfl) ?_
      refine xg_step rfl rfl (fun k => rfl) ?_
      refine xg_step rfl rfl (fun k => rfl) ?_
      refine zg_cvi rfl rfl rfl (Nat.le_of_ble_eq_true rfl) (zha (by decide)) zc_RefM rfl rfl zq_132f ?_
      refine xg_step rfl rfl (fun k => rfl) ?_
      refine xg_step rfl rfl (fun k => rfl) ?_
      refine xg_get rfl rfl (zha (by decide)) zc_RefM rfl rfl ?_
      refine xg_step rfl rfl (fun k => rfl) ?_
      refine zg_ald (.inr ⟨rfl, rfl⟩) (zha (by decide)) zc_r_lied (by decide) ⟨by omega, by omega⟩ (zvB (zk_lied (by omega)) (by omega)) ?_
      refine zg_eq0 rfl rfl (fun x k => rfl) (by first | assumption | exact hA _ _ | exact hB _ _ | exact hC _ _ | exact zrg_max (by assumption) (hA _ _) | (constructor <;> omega)) (fun hc => ?_) (fun hc => ?_)
      ·
        refine xg_step rfl rfl (fun k => rfl) ?_
        refine xg_get rfl rfl (zha (by decide)) zc_RefM rfl rfl ?_
        refine xg_step rfl rfl (fun k => rfl) ?_
        refine zg_ald (.inr ⟨rfl, rfl⟩) (zha (by decide)) zc_r_active (by decide) ⟨by omega, by omega⟩ (zvB (zk_active (by omega)) (by omega)) ?_
        refine zg_eq0 rfl rfl (fun x k => rfl) (by first | assumption | exact hA _ _ | exact hB _ _ | exact hC _ _ | exact zrg_max (by assumption) (hA _ _) | (constructor <;> omega)) (fun hc => ?_) (fun hc => ?_)
        ·
          exact (by omega : False).elim
        ·
          refine xg_step rfl rfl (fun k => rfl) ?_
          refine xg_get rfl rfl (zha (by decide)) zc_RefM rfl rfl ?_
          refine xg_step rfl rfl (fun k => rfl) ?_
          refine zg_ald (.inl ⟨rfl, rfl⟩) (zha (by decide)) zc_r_view (by decide) ⟨by omega, by omega⟩ (zvB (zk_view (by omega)) (by omega)) ?_
          refine xg_step rfl rfl (fun k => rfl) ?_
          refine zg_rem rfl (by omega) ?_
          refine xg_step rfl rfl (fun k => rfl) ?_
          refine zg_eq rfl rfl (fun x y k => rfl) (by first | assumption | exact hA _ _ | exact hB _ _ | exact hC _ _ | exact zrg_max (by assumption) (hA _ _) | (constructor <;> omega)) (by first | assumption | exact hA _ _ | exact hB _ _ | exact hC _ _ | exact zrg_max (by assumption) (hA _ _) | (constructor <;> omega)) (fun hc => ?_) (fun hc => ?_)
          ·
            refine xg_step rfl rfl (fun k => rfl) ?_
            refine xg_step rfl rfl (fun k => rfl) ?_
            exact zql_133n hB hC0 hr ht hvw hcn (k := 1) (by omega) (zex_0 (by omega)) hf (fun k1 => zm_133 hB hC0 ht hvw hrv hm1 hm2)
          ·
            exact (by omega : False).elim
      ·
        exact (by omega : False).elim
    ·
      refine xg_step rfl rfl (fun k => rfl) ?_
      refine xg_step rfl rfl (fun k => rfl) ?_
      refine xg_step rfl rfl (fun k => rfl) ?_
      refine xg_step rfl rfl (fun k => rfl) ?_
      refine zg_cvi rfl rfl rfl (Nat.le_of_ble_eq_true rfl) (zha (by decide)) zc_RefM rfl rfl zq_132t ?_
      refine xg_step rfl rfl (fun k => rfl) ?_
      refine xg_step rfl rfl (fun k => rfl) ?_
      refine zg_iret rfl rfl zfitI ?_
      first | rfl | exact (by omega : False).elim
  ·
    refine xg_step rfl rfl (fun k => rfl) ?_
    refine xg_step rfl rfl (fun k => rfl) ?_
    refine xg_step rfl rfl (fun k => rfl) ?_
    refine xg_step rfl rfl (fun k => rfl) ?_
    refine zg_cvi rfl rfl rfl (Nat.le_of_ble_eq_true rfl) (zha (by decide)) zc_RefM rfl rfl zq_132t ?_
    refine xg_step rfl rfl (fun k => rfl) ?_
    refine xg_step rfl rfl (fun k => rfl) ?_
    refine zg_iret rfl rfl zfitI ?_
    first | rfl | exact (by omega : False).elim
set_option maxRecDepth 10000 in
theorem zo_105a {d : Nat} {A B C : ZM} (hB : zRg B) (hC : zRg C) {c k q n : Int} (hcz : zrg c) (hk : zrg k) (hq : zrg q) (h1 : ¬ ((0 ≤ c ∧ c < 4) ∧ (0 ≤ k ∧ k ≤ 2) ∧ (0 ≤ q ∧ q < 4))) : XR (d + 1) 105 [.ref 107, zci (c), zci (k), zci (q), zci (n)] (zhp A (zmg B C)) (some (zci 0), zhp A (zmg B (zup C 107 0 1))) := by
  refine XR.of (Nat.le_of_ble_eq_true rfl) rfl ?_
  refine xg_step rfl rfl (fun k => rfl) ?_
  refine xg_step rfl rfl (fun k => rfl) ?_
  refine zg_lt0 rfl rfl (fun x k => rfl) (by first | assumption | exact hA _ _ | exact hB _ _ | exact hC _ _ | exact zrg_max (by assumption) (hA _ _) | (constructor <;> omega)) (fun hc => ?_) (fun hc => ?_)
  ·
    refine xg_step rfl rfl (fun k => rfl) ?_
    refine xg_step rfl rfl (fun k => rfl) ?_
    refine zg_put rfl rfl (zha (by decide)) zc_RefM (Nat.le_of_ble_eq_true rfl) rfl zfitI rfl (zhwB zw_RefM_0) ?_
    refine xg_step rfl rfl (fun k => rfl) ?_
    refine zg_geti (x := 1) rfl rfl (zha (by decide)) zc_RefM rfl (zup_eq ⟨by omega, by omega⟩) ?_
    refine zg_gt0 rfl rfl (fun x k => rfl) (by first | assumption | exact hA _ _ | exact hB _ _ | exact hC _ _ | exact zrg_max (by assumption) (hA _ _) | (constructor <;> omega)) (fun hc => ?_) (fun hc => ?_)
    ·
      refine xg_step rfl rfl (fun k => rfl) ?_
      refine zg_iret rfl rfl zfitI ?_
      first | rfl | exact (by omega : False).elim
    ·
      exact (by omega : False).elim
  ·
    refine xg_step rfl rfl (fun k => rfl) ?_
    refine xg_step rfl rfl (fun k => rfl) ?_
    refine zg_gt rfl rfl (fun x y k => rfl) (by first | assumption | exact hA _ _ | exact hB _ _ | exact hC _ _ | exact zrg_max (by assumption) (hA _ _) | (constructor <;> omega)) (by first | assumption | exact hA _ _ | exact hB _ _ | exact hC _ _ | exact zrg_max (by assumption) (hA _ _) | (constructor <;> omega)) (fun hc => ?_) (fun hc => ?_)
    ·
      refine xg_step rfl rfl (fun k => rfl) ?_
      refine xg_step rfl rfl (fun k => rfl) ?_
      refine zg_put rfl rfl (zha (by decide)) zc_RefM (Nat.le_of_ble_eq_true rfl) rfl zfitI rfl (zhwB zw_RefM_0) ?_
      refine xg_step rfl rfl (fun k => rfl) ?_
      refine zg_geti (x := 1) rfl rfl (zha (by decide)) zc_RefM rfl (zup_eq ⟨by omega, by omega⟩) ?_
      refine zg_gt0 rfl rfl (fun x k => rfl) (by first | assumption | exact hA _ _ | exact hB _ _ | exact hC _ _ | exact zrg_max (by assumption) (hA _ _) | (constructor <;> omega)) (fun hc => ?_) (fun hc => ?_)
      ·
        refine xg_step rfl rfl (fun k => rfl) ?_
        refine zg_iret rfl rfl zfitI ?_
        first | rfl | exact (by omega : False).elim
      ·
        exact (by omega : False).elim
    ·
      refine xg_step rfl rfl (fun k => rfl) ?_
      refine zg_lt0 rfl rfl (fun x k => rfl) (by first | assumption | exact hA _ _ | exact hB _ _ | exact hC _ _ | exact zrg_max (by assumption) (hA _ _) | (constructor <;> omega)) (fun hc => ?_) (fun hc => ?_)
      ·
        refine xg_step rfl rfl (fun k => rfl) ?_
        refine xg_step rfl rfl (fun k => rfl) ?_
        refine zg_put rfl rfl (zha (by decide)) zc_RefM (Nat.le_of_ble_eq_true rfl) rfl zfitI rfl (zhwB zw_RefM_0) ?_
        refine xg_step rfl rfl (fun k => rfl) ?_
        refine zg_geti (x := 1) rfl rfl (zha (by decide)) zc_RefM rfl (zup_eq ⟨by omega, by omega⟩) ?_
        refine zg_gt0 rfl rfl (fun x k => rfl) (by first | assumption | exact hA _ _ | exact hB _ _ | exact hC _ _ | exact zrg_max (by assumption) (hA _ _) | (constructor <;> omega)) (fun hc => ?_) (fun hc => ?_)
        ·
          refine xg_step rfl rfl (fun k => rfl) ?_
          refine zg_iret rfl rfl zfitI ?_
          first | rfl | exact (by omega : False).elim
        ·
          exact (by omega : False).elim
      ·
        refine xg_step rfl rfl (fun k => rfl) ?_
        refine xg_step rfl rfl (fun k => rfl) ?_
        refine zg_gt rfl rfl (fun x y k => rfl) (by first | assumption | exact hA _ _ | exact hB _ _ | exact hC _ _ | exact zrg_max (by assumption) (hA _ _) | (constructor <;> omega)) (by first | assumption | exact hA _ _ | exact hB _ _ | exact hC _ _ | exact zrg_max (by assumption) (hA _ _) | (constructor <;> omega)) (fun hc => ?_) (fun hc => ?_)
        ·
          refine xg_step rfl rfl (fun k => rfl) ?_
          refine xg_step rfl rfl (fun k => rfl) ?_
          refine zg_put rfl rfl (zha (by decide)) zc_RefM (Nat.le_of_ble_eq_true rfl) rfl zfitI rfl (zhwB zw_RefM_0) ?_
          refine xg_step rfl rfl (fun k => rfl) ?_
          refine zg_geti (x := 1) rfl rfl (zha (by decide)) zc_RefM rfl (zup_eq ⟨by omega, by omega⟩) ?_
          refine zg_gt0 rfl rfl (fun x k => rfl) (by first | assumption | exact hA _ _ | exact hB _ _ | exact hC _ _ | exact zrg_max (by assumption) (hA _ _) | (constructor <;> omega)) (fun hc => ?_) (fun hc => ?_)
          ·
            refine xg_step rfl rfl (fun k => rfl) ?_
            refine zg_iret rfl rfl zfitI ?_
            first | rfl | exact (by omega : False).elim
          ·
            exact (by omega : False).elim
        ·
          refine xg_step rfl rfl (fun k => rfl) ?_
          refine zg_lt0 rfl rfl (fun x k => rfl) (by first | assumption | exact hA _ _ | exact hB _ _ | exact hC _ _ | exact zrg_max (by assumption) (hA _ _) | (constructor <;> omega)) (fun hc => ?_) (fun hc => ?_)
          ·
            refine xg_step rfl rfl (fun k => rfl) ?_
            refine xg_step rfl rfl (fun k => rfl) ?_
            refine zg_put rfl rfl (zha (by decide)) zc_RefM (Nat.le_of_ble_eq_true rfl) rfl zfitI rfl (zhwB zw_RefM_0) ?_
            refine xg_step rfl rfl (fun k => rfl) ?_
            refine zg_geti (x := 1) rfl rfl (zha (by decide)) zc_RefM rfl (zup_eq ⟨by omega, by omega⟩) ?_
            refine zg_gt0 rfl rfl (fun x k => rfl) (by first | assumption | exact hA _ _ | exact hB _ _ | exact hC _ _ | exact zrg_max (by assumption) (hA _ _) | (constructor <;> omega)) (fun hc => ?_) (fun hc => ?_)
            ·
              refine xg_step rfl rfl (fun k => rfl) ?_
              refine zg_iret rfl rfl zfitI ?_
              first | rfl | exact (by omega : False).elim
            ·
              exact (by omega : False).elim
          ·
            refine xg_step rfl rfl (fun k => rfl) ?_
            refine xg_step rfl rfl (fun k => rfl) ?_
            refine zg_gt rfl rfl (fun x y k => rfl) (by first | assumption | exact hA _ _ | exact hB _ _ | exact hC _ _ | exact zrg_max (by assumption) (hA _ _) | (constructor <;> omega)) (by first | assumption | exact hA _ _ | exact hB _ _ | exact hC _ _ | exact zrg_max (by assumption) (hA _ _) | (constructor <;> omega)) (fun hc => ?_) (fun hc => ?_)
            ·
              refine xg_step rfl rfl (fun k => rfl) ?_
              refine xg_step rfl rfl (fun k => rfl) ?_
              refine zg_put rfl rfl (zha (by decide)) zc_RefM (Nat.le_of_ble_eq_true rfl) rfl zfitI rfl (zhwB zw_RefM_0) ?_
              refine xg_step rfl rfl (fun k => rfl) ?_
              refine zg_geti (x := 1) rfl rfl (zha (by decide)) zc_RefM rfl (zup_eq ⟨by omega, by omega⟩) ?_
              refine zg_gt0 rfl rfl (fun x k => rfl) (by first | assumption | exact hA _ _ | exact hB _ _ | exact hC _ _ | exact zrg_max (by assumption) (hA _ _) | (constructor <;> omega)) (fun hc => ?_) (fun hc => ?_)
              ·
                refine xg_step rfl rfl (fun k => rfl) ?_
                refine zg_iret rfl rfl zfitI ?_
                first | rfl | exact (by omega : False).elim
              ·
                exact (by omega : False).elim
            ·
              exact (by omega : False).elim
set_option maxRecDepth 10000 in
theorem zo_105b {d : Nat} {A B C : ZM} (hB : zRg B) (hC : zRg C) {c k q n : Int} (hcz : zrg c) (hk : zrg k) (hq : zrg q) (h1 : 0 ≤ c ∧ c < 4) (h2 : 0 ≤ k ∧ k ≤ 2) (h3 : 0 ≤ q ∧ q < 4) (h4 : B 1 6 = 60) : XR (d + 1) 105 [.ref 107, zci (c), zci (k), zci (q), zci (n)] (zhp A (zmg B C)) (some (zci 0), zhp A (zmg B (zup C 107 0 2))) := by
  refine XR.of (Nat.le_of_ble_eq_true rfl) rfl ?_
  refine xg_step rfl rfl (fun k => rfl) ?_
  refine xg_step rfl rfl (fun k => rfl) ?_
  refine zg_lt0 rfl rfl (fun x k => rfl) (by first | assumption | exact hA _ _ | exact hB _ _ | exact hC _ _ | exact zrg_max (by assumption) (hA _ _) | (constructor <;> omega)) (fun hc => ?_) (fun hc => ?_)
  ·
    exact (by omega : False).elim
  ·
    refine xg_step rfl rfl (fun k => rfl) ?_
    refine xg_step rfl rfl (fun k => rfl) ?_
    refine zg_gt rfl rfl (fun x y k => rfl) (by first | assumption | exact hA _ _ | exact hB _ _ | exact hC _ _ | exact zrg_max (by assumption) (hA _ _) | (constructor <;> omega)) (by first | assumption | exact hA _ _ | exact hB _ _ | exact hC _ _ | exact zrg_max (by assumption) (hA _ _) | (constructor <;> omega)) (fun hc => ?_) (fun hc => ?_)
    ·
      exact (by omega : False).elim
    ·
      refine xg_step rfl rfl (fun k => rfl) ?_
      refine zg_lt0 rfl rfl (fun x k => rfl) (by first | assumption | exact hA _ _ | exact hB _ _ | exact hC _ _ | exact zrg_max (by assumption) (hA _ _) | (constructor <;> omega)) (fun hc => ?_) (fun hc => ?_)
      ·
        exact (by omega : False).elim
      ·
        refine xg_step rfl rfl (fun k => rfl) ?_
        refine xg_step rfl rfl (fun k => rfl) ?_
        refine zg_gt rfl rfl (fun x y k => rfl) (by first | assumption | exact hA _ _ | exact hB _ _ | exact hC _ _ | exact zrg_max (by assumption) (hA _ _) | (constructor <;> omega)) (by first | assumption | exact hA _ _ | exact hB _ _ | exact hC _ _ | exact zrg_max (by assumption) (hA _ _) | (constructor <;> omega)) (fun hc => ?_) (fun hc => ?_)
        ·
          exact (by omega : False).elim
        ·
          refine xg_step rfl rfl (fun k => rfl) ?_
          refine zg_lt0 rfl rfl (fun x k => rfl) (by first | assumption | exact hA _ _ | exact hB _ _ | exact hC _ _ | exact zrg_max (by assumption) (hA _ _) | (constructor <;> omega)) (fun hc => ?_) (fun hc => ?_)
          ·
            exact (by omega : False).elim
          ·
            refine xg_step rfl rfl (fun k => rfl) ?_
            refine xg_step rfl rfl (fun k => rfl) ?_
            refine zg_gt rfl rfl (fun x y k => rfl) (by first | assumption | exact hA _ _ | exact hB _ _ | exact hC _ _ | exact zrg_max (by assumption) (hA _ _) | (constructor <;> omega)) (by first | assumption | exact hA _ _ | exact hB _ _ | exact hC _ _ | exact zrg_max (by assumption) (hA _ _) | (constructor <;> omega)) (fun hc => ?_) (fun hc => ?_)
            ·
              exact (by omega : False).elim
            ·
              refine xg_step rfl rfl (fun k => rfl) ?_
              refine xg_get rfl rfl (zha (by decide)) zc_RefM rfl rfl ?_
              refine zg_bi rfl (by decide) ?_
              refine zg_eq rfl rfl (fun x y k => rfl) (by first | assumption | exact hA _ _ | exact hB _ _ | exact hC _ _ | exact zrg_max (by assumption) (hA _ _) | (constructor <;> omega)) (by first | assumption | exact hA _ _ | exact hB _ _ | exact hC _ _ | exact zrg_max (by assumption) (hA _ _) | (constructor <;> omega)) (fun hc => ?_) (fun hc => ?_)
              ·
                refine xg_step rfl rfl (fun k => rfl) ?_
                refine xg_step rfl rfl (fun k => rfl) ?_
                refine zg_put rfl rfl (zha (by decide)) zc_RefM (Nat.le_of_ble_eq_true rfl) rfl zfitI rfl (zhwB zw_RefM_0) ?_
                refine xg_step rfl rfl (fun k => rfl) ?_
                refine zg_geti (x := 2) rfl rfl (zha (by decide)) zc_RefM rfl (zup_eq ⟨by omega, by omega⟩) ?_
                refine zg_gt0 rfl rfl (fun x k => rfl) (by first | assumption | exact hA _ _ | exact hB _ _ | exact hC _ _ | exact zrg_max (by assumption) (hA _ _) | (constructor <;> omega)) (fun hc => ?_) (fun hc => ?_)
                ·
                  refine xg_step rfl rfl (fun k => rfl) ?_
                  refine zg_iret rfl rfl zfitI ?_
                  first | rfl | exact (by omega : False).elim
                ·
                  exact (by omega : False).elim
              ·
                refine xg_step rfl rfl (fun k => rfl) ?_
                refine zg_put rfl rfl (zha (by decide)) zc_RefM (Nat.le_of_ble_eq_true rfl) rfl zfitI rfl (zhwB zw_RefM_0) ?_
                refine xg_step rfl rfl (fun k => rfl) ?_
                refine zg_geti (x := 0) rfl rfl (zha (by decide)) zc_RefM rfl (zup_eq ⟨by omega, by omega⟩) ?_
                refine zg_gt0 rfl rfl (fun x k => rfl) (by first | assumption | exact hA _ _ | exact hB _ _ | exact hC _ _ | exact zrg_max (by assumption) (hA _ _) | (constructor <;> omega)) (fun hc => ?_) (fun hc => ?_)
                ·
                  refine xg_step rfl rfl (fun k => rfl) ?_
                  refine zg_iret rfl rfl zfitI ?_
                  first | rfl | exact (by omega : False).elim
                ·
                  exact (by omega : False).elim
def zonf (B : ZM) (c r x : Int) : Int := x + (if B 2 r = c then 1 else 0)
set_option maxRecDepth 10000 in
theorem zql_105 {d : Nat} {A B C : ZM} (hB : zRg B) (hC : zRg C) {c k q n : Int} (hcz : zrg c) (hk : zrg k) (hq : zrg q) {x r : Int} (hx0 : 1 ≤ x ∧ x ≤ r + 1) (hrr : 0 ≤ r ∧ r ≤ B 1 6) (h4 : B 1 6 < 60) {rr : Option Value × XS} (hx : ∀ r1, XG (d + 1) 105 100 [some (.ref 107), some (zci c), some (zci k), some (zci q), some (zci n), some (zci (zfi (zonf B c) r (B 1 6 - 1) x)), some (zci r1)] [] (zhp A (zmg B C)) rr) : XG (d + 1) 105 64 [some (.ref 107), some (zci (c)), some (zci (k)), some (zci (q)), some (zci (n)), some (zci (x)), some (zci (r))] [] (zhp A (zmg B C)) rr := by
  refine xg_step rfl rfl (fun k => rfl) ?_
  refine xg_step rfl rfl (fun k => rfl) ?_
  refine xg_get rfl rfl (zha (by decide)) zc_RefM rfl rfl ?_
  refine zg_lt rfl rfl (fun x y k => rfl) (by first | assumption | exact hA _ _ | exact hB _ _ | exact hC _ _ | exact zrg_max (by assumption) (hA _ _) | (constructor <;> omega)) (by first | assumption | exact hA _ _ | exact hB _ _ | exact hC _ _ | exact zrg_max (by assumption) (hA _ _) | (constructor <;> omega)) (fun hc => ?_) (fun hc => ?_)
  ·
    refine xg_step rfl rfl (fun k => rfl) ?_
    refine xg_step rfl rfl (fun k => rfl) ?_
    refine xg_get rfl rfl (zha (by decide)) zc_RefM rfl rfl ?_
    refine xg_step rfl rfl (fun k => rfl) ?_
    refine zg_ald (.inl ⟨rfl, rfl⟩) (zha (by decide)) zc_r_rClient (by decide) ⟨by omega, by omega⟩ (zvB (zk_rClient (by omega)) (by omega)) ?_
    refine xg_step rfl rfl (fun k => rfl) ?_
    refine zg_eq rfl rfl (fun x y k => rfl) (by first | assumption | exact hA _ _ | exact hB _ _ | exact hC _ _ | exact zrg_max (by assumption) (hA _ _) | (constructor <;> omega)) (by first | assumption | exact hA _ _ | exact hB _ _ | exact hC _ _ | exact zrg_max (by assumption) (hA _ _) | (constructor <;> omega)) (fun hc => ?_) (fun hc => ?_)
    ·
      refine xg_step rfl rfl (fun k => rfl) ?_
      refine xg_step rfl rfl (fun k => rfl) ?_
      refine zg_add rfl ?_
      refine xg_step rfl rfl (fun k => rfl) ?_
      refine zg_inc rfl rfl rfl rfl ?_
      refine xg_step rfl rfl (fun k => rfl) ?_
      exact zql_105 hB hC hcz hk hq (by omega) (by omega) h4 (fun r1 => by have := hx r1; rw [zfi_s (by omega) (show zonf B c r x = x + 1 from by unfold zonf; first | rw [if_pos (by omega)] | rw [if_neg (by omega)])] at this; exact this)
    ·
      refine xg_step rfl rfl (fun k => rfl) ?_
      refine zg_add rfl ?_
      refine xg_step rfl rfl (fun k => rfl) ?_
      refine zg_inc rfl rfl rfl rfl ?_
      refine xg_step rfl rfl (fun k => rfl) ?_
      exact zql_105 hB hC hcz hk hq (by omega) (by omega) h4 (fun r1 => by have := hx r1; rw [zfi_s (by omega) (show zonf B c r x = x + 0 from by unfold zonf; first | rw [if_pos (by omega)] | rw [if_neg (by omega)])] at this; exact this)
  ·
    (have := hx r; rw [zfi_N (by omega)] at this; exact this)
termination_by (B 1 6 - r).toNat
decreasing_by all_goals omega
set_option maxRecDepth 10000 in
theorem zm_105 {d : Nat} {A B C : ZM} (hB : zRg B) (hC : zRg C) {c k q n x r1 : Int} (h1 : 0 ≤ c ∧ c < 4) (h4 : 0 ≤ B 1 6 ∧ B 1 6 < 60) (hx : x = B 7 c + 1) : XG (d + 1) 105 100 [some (.ref 107), some (zci (c)), some (zci (k)), some (zci (q)), some (zci (n)), some (zci (x)), some (zci (r1))] [] (zhp A (zmg B C)) (some (zci (B 1 6 + 1 - 1)), zhp A (zmg (zrqA B c k q n) C)) := by
  refine xg_step rfl rfl (fun k => rfl) ?_
  refine xg_get rfl rfl (zha (by decide)) zc_RefM rfl rfl ?_
  refine xg_step rfl rfl (fun k => rfl) ?_
  refine xg_get rfl rfl (zha (by decide)) zc_RefM rfl rfl ?_
  refine xg_step rfl rfl (fun k => rfl) ?_
  refine zg_ast (.inl ⟨rfl, rfl⟩) (zha (by decide)) zc_r_rClient (by decide) ⟨by omega, by omega⟩ (zhwB (zwB (zk_rClient (by omega)) zw_r_rClient (by omega))) ?_
  refine xg_step rfl rfl (fun k => rfl) ?_
  refine xg_get rfl rfl (zha (by decide)) zc_RefM rfl rfl ?_
  refine xg_step rfl rfl (fun k => rfl) ?_
  refine zg_geti (x := B 1 6) rfl rfl (zha (by decide)) zc_RefM rfl (zup_ne (by omega)) ?_
  refine xg_step rfl rfl (fun k => rfl) ?_
  refine zg_ast (.inl ⟨rfl, rfl⟩) (zha (by decide)) zc_r_rOwn (by decide) ⟨by omega, by omega⟩ (zhwB (zwB (zk_rOwn (by omega)) zw_r_rOwn (by omega))) ?_
  refine xg_step rfl rfl (fun k => rfl) ?_
  refine xg_get rfl rfl (zha (by decide)) zc_RefM rfl rfl ?_
  refine xg_step rfl rfl (fun k => rfl) ?_
  refine zg_geti (x := B 1 6) rfl rfl (zha (by decide)) zc_RefM rfl ((zup_ne (by omega)).trans (zup_ne (by omega))) ?_
  refine xg_step rfl rfl (fun k => rfl) ?_
  refine zg_ast (.inl ⟨rfl, rfl⟩) (zha (by decide)) zc_r_rKind (by decide) ⟨by omega, by omega⟩ (zhwB (zwB (zk_rKind (by omega)) zw_r_rKind (by omega))) ?_
  refine xg_step rfl rfl (fun k => rfl) ?_
  refine xg_get rfl rfl (zha (by decide)) zc_RefM rfl rfl ?_
  refine xg_step rfl rfl (fun k => rfl) ?_
  refine zg_geti (x := B 1 6) rfl rfl (zha (by decide)) zc_RefM rfl ((zup_ne (by omega)).trans ((zup_ne (by omega)).trans (zup_ne (by omega)))) ?_
  refine xg_step rfl rfl (fun k => rfl) ?_
  refine zg_ast (.inl ⟨rfl, rfl⟩) (zha (by decide)) zc_r_rKey (by decide) ⟨by omega, by omega⟩ (zhwB (zwB (zk_rKey (by omega)) zw_r_rKey (by omega))) ?_
  refine xg_step rfl rfl (fun k => rfl) ?_
  refine xg_get rfl rfl (zha (by decide)) zc_RefM rfl rfl ?_
  refine xg_step rfl rfl (fun k => rfl) ?_
  refine zg_geti (x := B 1 6) rfl rfl (zha (by decide)) zc_RefM rfl ((zup_ne (by omega)).trans ((zup_ne (by omega)).trans ((zup_ne (by omega)).trans (zup_ne (by omega))))) ?_
  refine xg_step rfl rfl (fun k => rfl) ?_
  refine zg_ast (.inl ⟨rfl, rfl⟩) (zha (by decide)) zc_r_rNumber (by decide) ⟨by omega, by omega⟩ (zhwB (zwB (zk_rNumber (by omega)) zw_r_rNumber (by omega))) ?_
  refine xg_step rfl rfl (fun k => rfl) ?_
  refine xg_step rfl rfl (fun k => rfl) ?_
  refine zg_geti (x := B 1 6) rfl rfl (zha (by decide)) zc_RefM rfl ((zup_ne (by omega)).trans ((zup_ne (by omega)).trans ((zup_ne (by omega)).trans ((zup_ne (by omega)).trans (zup_ne (by omega)))))) ?_
  refine xg_step rfl rfl (fun k => rfl) ?_
  refine zg_add rfl ?_
  refine zg_put rfl rfl (zha (by decide)) zc_RefM (Nat.le_of_ble_eq_true rfl) rfl zfitI rfl (zhwB zw_RefM_8) ?_
  refine xg_step rfl rfl (fun k => rfl) ?_
  refine zg_geti (x := (B 1 6) + 1) rfl rfl (zha (by decide)) zc_RefM rfl (zup_eq ⟨by omega, by omega⟩) ?_
  refine xg_step rfl rfl (fun k => rfl) ?_
  refine zg_sub rfl ?_
  refine zg_iret rfl rfl zfitI ?_
  (refine congrArg (fun s => (some (zci (B 1 6 + 1 - 1)), s)) ?_; subst hx; exact zgh3 (fun a i hv hn => by unfold zrqA; have h7 : ¬ (a = 7 ∧ i = c) := (fun q => by unfold zfm2 at hv; omega); simp only [zup, h7, if_false]))
set_option maxRecDepth 10000 in
theorem zo_105 {d : Nat} {A B C : ZM} (hB : zRg B) (hC : zRg C) {c k q n : Int} (hcz : zrg c) (hk : zrg k) (hq : zrg q) (h1 : 0 ≤ c ∧ c < 4) (h2 : 0 ≤ k ∧ k ≤ 2) (h3 : 0 ≤ q ∧ q < 4) (h4 : 0 ≤ B 1 6 ∧ B 1 6 < 60) (hmb : zfi (zonf B c) 0 (B 1 6 - 1) 1 = B 7 c + 1) : XR (d + 2) 105 [.ref 107, zci (c), zci (k), zci (q), zci (n)] (zhp A (zmg B C)) (some (zci (B 1 6 + 1 - 1)), zhp A (zmg (zrqA B c k q n) (zup C 107 0 0))) := by
  have hC0 : zRg (zup C 107 0 0) := zRg_up hC ⟨by decide, by decide⟩
  refine XR.of (Nat.le_of_ble_eq_true rfl) rfl ?_
  refine xg_step rfl rfl (fun k => rfl) ?_
  refine xg_step rfl rfl (fun k => rfl) ?_
  refine zg_lt0 rfl rfl (fun x k => rfl) (by first | assumption | exact hA _ _ | exact hB _ _ | exact hC _ _ | exact zrg_max (by assumption) (hA _ _) | (constructor <;> omega)) (fun hc => ?_) (fun hc => ?_)
  ·
    exact (by omega : False).elim
  ·
    refine xg_step rfl rfl (fun k => rfl) ?_
    refine xg_step rfl rfl (fun k => rfl) ?_
    refine zg_gt rfl rfl (fun x y k => rfl) (by first | assumption | exact hA _ _ | exact hB _ _ | exact hC _ _ | exact zrg_max (by assumption) (hA _ _) | (constructor <;> omega)) (by first | assumption | exact hA _ _ | exact hB _ _ | exact hC _ _ | exact zrg_max (by assumption) (hA _ _) | (constructor <;> omega)) (fun hc => ?_) (fun hc => ?_)
    ·
      exact (by omega : False).elim
    ·
      refine xg_step rfl rfl (fun k => rfl) ?_
      refine zg_lt0 rfl rfl (fun x k => rfl) (by first | assumption | exact hA _ _ | exact hB _ _ | exact hC _ _ | exact zrg_max (by assumption) (hA _ _) | (constructor <;> omega)) (fun hc => ?_) (fun hc => ?_)
      ·
        exact (by omega : False).elim
      ·
        refine xg_step rfl rfl (fun k => rfl) ?_
        refine xg_step rfl rfl (fun k => rfl) ?_
        refine zg_gt rfl rfl (fun x y k => rfl) (by first | assumption | exact hA _ _ | exact hB _ _ | exact hC _ _ | exact zrg_max (by assumption) (hA _ _) | (constructor <;> omega)) (by first | assumption | exact hA _ _ | exact hB _ _ | exact hC _ _ | exact zrg_max (by assumption) (hA _ _) | (constructor <;> omega)) (fun hc => ?_) (fun hc => ?_)
        ·
          exact (by omega : False).elim
        ·
          refine xg_step rfl rfl (fun k => rfl) ?_
          refine zg_lt0 rfl rfl (fun x k => rfl) (by first | assumption | exact hA _ _ | exact hB _ _ | exact hC _ _ | exact zrg_max (by assumption) (hA _ _) | (constructor <;> omega)) (fun hc => ?_) (fun hc => ?_)
          ·
            exact (by omega : False).elim
          ·
            refine xg_step rfl rfl (fun k => rfl) ?_
            refine xg_step rfl rfl (fun k => rfl) ?_
            refine zg_gt rfl rfl (fun x y k => rfl) (by first | assumption | exact hA _ _ | exact hB _ _ | exact hC _ _ | exact zrg_max (by assumption) (hA _ _) | (constructor <;> omega)) (by first | assumption | exact hA _ _ | exact hB _ _ | exact hC _ _ | exact zrg_max (by assumption) (hA _ _) | (constructor <;> omega)) (fun hc => ?_) (fun hc => ?_)
            ·
              exact (by omega : False).elim
            ·
              refine xg_step rfl rfl (fun k => rfl) ?_
              refine xg_get rfl rfl (zha (by decide)) zc_RefM rfl rfl ?_
              refine zg_bi rfl (by decide) ?_
              refine zg_eq rfl rfl (fun x y k => rfl) (by first | assumption | exact hA _ _ | exact hB _ _ | exact hC _ _ | exact zrg_max (by assumption) (hA _ _) | (constructor <;> omega)) (by first | assumption | exact hA _ _ | exact hB _ _ | exact hC _ _ | exact zrg_max (by assumption) (hA _ _) | (constructor <;> omega)) (fun hc => ?_) (fun hc => ?_)
              ·
                exact (by omega : False).elim
              ·
                refine xg_step rfl rfl (fun k => rfl) ?_
                refine zg_put rfl rfl (zha (by decide)) zc_RefM (Nat.le_of_ble_eq_true rfl) rfl zfitI rfl (zhwB zw_RefM_0) ?_
                refine xg_step rfl rfl (fun k => rfl) ?_
                refine zg_geti (x := 0) rfl rfl (zha (by decide)) zc_RefM rfl (zup_eq ⟨by omega, by omega⟩) ?_
                refine zg_gt0 rfl rfl (fun x k => rfl) (by first | assumption | exact hA _ _ | exact hB _ _ | exact hC _ _ | exact zrg_max (by assumption) (hA _ _) | (constructor <;> omega)) (fun hc => ?_) (fun hc => ?_)
                ·
                  exact (by omega : False).elim
                ·
                  refine xg_step rfl rfl (fun k => rfl) ?_
                  refine xg_step rfl rfl (fun k => rfl) ?_
                  refine xg_step rfl rfl (fun k => rfl) ?_
                  refine xg_step rfl rfl (fun k => rfl) ?_
                  exact zql_105 hB hC0 hcz hk hq (by omega) (by omega) (by omega) (fun r1 => by rw [hmb]; exact zm_105 hB hC0 h1 h4 rfl)
