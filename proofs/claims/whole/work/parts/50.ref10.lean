/-! the reference: a CHANGE whole, reading on, its small questions -/
set_option maxRecDepth 10000 in
theorem zq_125n {d : Nat} {A B C : ZM} (hB : zRg B) (hC : zRg C) {t s k w : Int} (ht : 0 ≤ t ∧ t < 3) (hs : 0 ≤ s ∧ s < 3) (hk : 1 ≤ k ∧ k ≤ 100) (hw : 0 ≤ w ∧ w < 31) (hrd : 0 ≤ C 107 40 ∧ C 107 40 ≤ 100000) (hvw : zrg (B (56 + 17 * t) 7)) (hc1 : w = B (56 + 17 * t) 7) (hc2 : B (56 + 17 * t) 8 = 0) (hc3 : w % 3 = t) (hC1 : zRg (zch C t s k w)) {f g : Int} (hch : zCh (zch C t s k w) t w f g) (hf : f ≠ 0) (hg : g = 0) : XR (d + 2) 125 [.ref 107, zci (t), zci (s), zci (k), zci (w)] (zhp A (zmg B C)) (none, zhp A (zmg (znote B t w (k * 3 + s)) (zch C t s k w))) := by
  refine XR.of (Nat.le_of_ble_eq_true rfl) rfl ?_
  refine xg_step rfl rfl (fun k => rfl) ?_
  refine zg_bi rfl (by decide) ?_
  refine zg_mul rfl ?_
  refine xg_step rfl rfl (fun k => rfl) ?_
  refine zg_add rfl ?_
  refine xg_step rfl rfl (fun k => rfl) ?_
  refine zg_mul rfl ?_
  refine xg_step rfl rfl (fun k => rfl) ?_
  refine zg_add rfl ?_
  refine xg_step rfl rfl (fun k => rfl) ?_
  refine xg_step rfl rfl (fun k => rfl) ?_
  refine xg_get rfl rfl (zha (by decide)) zc_RefM rfl rfl ?_
  refine xg_step rfl rfl (fun k => rfl) ?_
  refine zg_ald (.inl ⟨rfl, rfl⟩) (zha (by decide)) zc_r_changeRead (by decide) ⟨by omega, by omega⟩ (zvC zk_changeRead (by omega)) ?_
  refine zg_eq0 rfl rfl (fun x k => rfl) (by first | assumption | exact hA _ _ | exact hB _ _ | exact hC _ _ | exact zrg_max (by assumption) (hA _ _) | (constructor <;> omega)) (fun hc => ?_) (fun hc => ?_)
  ·
    refine xg_step rfl rfl (fun k => rfl) ?_
    refine xg_step rfl rfl (fun k => rfl) ?_
    refine xg_get rfl rfl (zha (by decide)) zc_RefM rfl rfl ?_
    refine xg_step rfl rfl (fun k => rfl) ?_
    refine zg_add rfl ?_
    refine zg_put rfl rfl (zha (by decide)) zc_RefM (Nat.le_of_ble_eq_true rfl) rfl zfitI rfl (zhwB zw_RefM_40) ?_
    refine xg_step rfl rfl (fun k => rfl) ?_
    refine xg_get rfl rfl (zha (by decide)) zc_RefM rfl rfl ?_
    refine xg_step rfl rfl (fun k => rfl) ?_
    refine xg_step rfl rfl (fun k => rfl) ?_
    refine zg_geti (x := (C 107 40) + 1) rfl rfl (zha (by decide)) zc_RefM rfl (zup_eq ⟨by omega, by omega⟩) ?_
    refine zg_ast (.inl ⟨rfl, rfl⟩) (zha (by decide)) zc_r_changeRead (by decide) ⟨by omega, by omega⟩ (zhwB (zwC zk_changeRead zw_r_changeRead (by omega))) ?_
    refine xg_step rfl rfl (fun k => rfl) ?_
    refine xg_get rfl rfl (zha (by decide)) zc_RefM rfl rfl ?_
    refine xg_step rfl rfl (fun k => rfl) ?_
    refine xg_step rfl rfl (fun k => rfl) ?_
    refine zg_ast (.inl ⟨rfl, rfl⟩) (zha (by decide)) zc_r_changeNumber (by decide) ⟨by omega, by omega⟩ (zhwB (zwC zk_changeNumber zw_r_changeNumber (by omega))) ?_
    refine xg_step rfl rfl (fun k => rfl) ?_
    refine xg_step rfl rfl (fun k => rfl) ?_
    refine xg_get rfl rfl (zha (by decide)) zc_RefM rfl rfl ?_
    refine xg_step rfl rfl (fun k => rfl) ?_
    refine zg_ald (.inl ⟨rfl, rfl⟩) (zha (by decide)) zc_r_view (by decide) ⟨by omega, by omega⟩ (zvB (zk_view (by omega)) (by omega)) ?_
    refine zg_eq rfl rfl (fun x y k => rfl) (by first | assumption | exact hA _ _ | exact hB _ _ | exact hC _ _ | exact zrg_max (by assumption) (hA _ _) | (constructor <;> omega)) (by first | assumption | exact hA _ _ | exact hB _ _ | exact hC _ _ | exact zrg_max (by assumption) (hA _ _) | (constructor <;> omega)) (fun hc => ?_) (fun hc => ?_)
    ·
      refine xg_step rfl rfl (fun k => rfl) ?_
      refine xg_get rfl rfl (zha (by decide)) zc_RefM rfl rfl ?_
      refine xg_step rfl rfl (fun k => rfl) ?_
      refine zg_ald (.inr ⟨rfl, rfl⟩) (zha (by decide)) zc_r_active (by decide) ⟨by omega, by omega⟩ (zvB (zk_active (by omega)) (by omega)) ?_
      refine zg_eq0 rfl rfl (fun x k => rfl) (by first | assumption | exact hA _ _ | exact hB _ _ | exact hC _ _ | exact zrg_max (by assumption) (hA _ _) | (constructor <;> omega)) (fun hc => ?_) (fun hc => ?_)
      ·
        refine xg_step rfl rfl (fun k => rfl) ?_
        refine xg_step rfl rfl (fun k => rfl) ?_
        refine zg_rem rfl (by omega) ?_
        refine xg_step rfl rfl (fun k => rfl) ?_
        refine zg_eq rfl rfl (fun x y k => rfl) (by first | assumption | exact hA _ _ | exact hB _ _ | exact hC _ _ | exact zrg_max (by assumption) (hA _ _) | (constructor <;> omega)) (by first | assumption | exact hA _ _ | exact hB _ _ | exact hC _ _ | exact zrg_max (by assumption) (hA _ _) | (constructor <;> omega)) (fun hc => ?_) (fun hc => ?_)
        ·
          have e : zch C t s k w = (zup (zup (zup C 107 40 ((C 107 40) + 1)) 142 ((((t * 31) + w) * 3) + s) ((C 107 40) + 1)) 143 ((((t * 31) + w) * 3) + s) k) := if_pos (by omega)
          rw [e] at hC1 hch ⊢
          rw [← znote_gh (B := B) ht (v := w) (p := k * 3 + s)]
          exact zm_125n (znote_rg (p := k * 3 + s) hB ⟨by omega, by omega⟩) hC1 ht hw hch hf hg
        ·
          refine zg_ret rfl rfl ?_
          exact (by omega : False).elim
      ·
        refine zg_ret rfl rfl ?_
        exact (by omega : False).elim
    ·
      refine zg_ret rfl rfl ?_
      exact (by omega : False).elim
  ·
    refine xg_step rfl rfl (fun k => rfl) ?_
    refine xg_step rfl rfl (fun k => rfl) ?_
    refine xg_get rfl rfl (zha (by decide)) zc_RefM rfl rfl ?_
    refine xg_step rfl rfl (fun k => rfl) ?_
    refine zg_ald (.inl ⟨rfl, rfl⟩) (zha (by decide)) zc_r_view (by decide) ⟨by omega, by omega⟩ (zvB (zk_view (by omega)) (by omega)) ?_
    refine zg_eq rfl rfl (fun x y k => rfl) (by first | assumption | exact hA _ _ | exact hB _ _ | exact hC _ _ | exact zrg_max (by assumption) (hA _ _) | (constructor <;> omega)) (by first | assumption | exact hA _ _ | exact hB _ _ | exact hC _ _ | exact zrg_max (by assumption) (hA _ _) | (constructor <;> omega)) (fun hc => ?_) (fun hc => ?_)
    ·
      refine xg_step rfl rfl (fun k => rfl) ?_
      refine xg_get rfl rfl (zha (by decide)) zc_RefM rfl rfl ?_
      refine xg_step rfl rfl (fun k => rfl) ?_
      refine zg_ald (.inr ⟨rfl, rfl⟩) (zha (by decide)) zc_r_active (by decide) ⟨by omega, by omega⟩ (zvB (zk_active (by omega)) (by omega)) ?_
      refine zg_eq0 rfl rfl (fun x k => rfl) (by first | assumption | exact hA _ _ | exact hB _ _ | exact hC _ _ | exact zrg_max (by assumption) (hA _ _) | (constructor <;> omega)) (fun hc => ?_) (fun hc => ?_)
      ·
        refine xg_step rfl rfl (fun k => rfl) ?_
        refine xg_step rfl rfl (fun k => rfl) ?_
        refine zg_rem rfl (by omega) ?_
        refine xg_step rfl rfl (fun k => rfl) ?_
        refine zg_eq rfl rfl (fun x y k => rfl) (by first | assumption | exact hA _ _ | exact hB _ _ | exact hC _ _ | exact zrg_max (by assumption) (hA _ _) | (constructor <;> omega)) (by first | assumption | exact hA _ _ | exact hB _ _ | exact hC _ _ | exact zrg_max (by assumption) (hA _ _) | (constructor <;> omega)) (fun hc => ?_) (fun hc => ?_)
        ·
          have e : zch C t s k w = C := if_neg (by omega)
          rw [e] at hC1 hch ⊢
          rw [← znote_gh (B := B) ht (v := w) (p := k * 3 + s)]
          exact zm_125n (znote_rg (p := k * 3 + s) hB ⟨by omega, by omega⟩) hC1 ht hw hch hf hg
        ·
          refine zg_ret rfl rfl ?_
          exact (by omega : False).elim
      ·
        refine zg_ret rfl rfl ?_
        exact (by omega : False).elim
    ·
      refine zg_ret rfl rfl ?_
      exact (by omega : False).elim
set_option maxRecDepth 10000 in
theorem zq_125y {d : Nat} {A B C : ZM} (hB : zRg B) (hC : zRg C) {t s k w : Int} (ht : 0 ≤ t ∧ t < 3) (hs : 0 ≤ s ∧ s < 3) (hk : 1 ≤ k ∧ k ≤ 100) (hw : 0 ≤ w ∧ w < 31) (hrd : 0 ≤ C 107 40 ∧ C 107 40 ≤ 100000) (hvw : zrg (B (56 + 17 * t) 7)) (hc1 : w = B (56 + 17 * t) 7) (hc2 : B (56 + 17 * t) 8 = 0) (hc3 : w % 3 = t) (hC1 : zRg (zch C t s k w)) {f g : Int} (hch : zCh (zch C t s k w) t w f g) (hg : g ≠ 0) {B2 C2 : ZM} {rv : Int} (hmid : XR (d + 1) 121 [.ref 107, zci t, zci 3, zci w, zci f, zci g] (zhp A (zmg (znote B t w (k * 3 + s)) (zch C t s k w))) (some (zci rv), zhp A (zmg B2 C2))) : XR (d + 2) 125 [.ref 107, zci (t), zci (s), zci (k), zci (w)] (zhp A (zmg B C)) (none, zhp A (zmg B2 C2)) := by
  refine XR.of (Nat.le_of_ble_eq_true rfl) rfl ?_
  refine xg_step rfl rfl (fun k => rfl) ?_
  refine zg_bi rfl (by decide) ?_
  refine zg_mul rfl ?_
  refine xg_step rfl rfl (fun k => rfl) ?_
  refine zg_add rfl ?_
  refine xg_step rfl rfl (fun k => rfl) ?_
  refine zg_mul rfl ?_
  refine xg_step rfl rfl (fun k => rfl) ?_
  refine zg_add rfl ?_
  refine xg_step rfl rfl (fun k => rfl) ?_
  refine xg_step rfl rfl (fun k => rfl) ?_
  refine xg_get rfl rfl (zha (by decide)) zc_RefM rfl rfl ?_
  refine xg_step rfl rfl (fun k => rfl) ?_
  refine zg_ald (.inl ⟨rfl, rfl⟩) (zha (by decide)) zc_r_changeRead (by decide) ⟨by omega, by omega⟩ (zvC zk_changeRead (by omega)) ?_
  refine zg_eq0 rfl rfl (fun x k => rfl) (by first | assumption | exact hA _ _ | exact hB _ _ | exact hC _ _ | exact zrg_max (by assumption) (hA _ _) | (constructor <;> omega)) (fun hc => ?_) (fun hc => ?_)
  ·
    refine xg_step rfl rfl (fun k => rfl) ?_
    refine xg_step rfl rfl (fun k => rfl) ?_
    refine xg_get rfl rfl (zha (by decide)) zc_RefM rfl rfl ?_
    refine xg_step rfl rfl (fun k => rfl) ?_
    refine zg_add rfl ?_
    refine zg_put rfl rfl (zha (by decide)) zc_RefM (Nat.le_of_ble_eq_true rfl) rfl zfitI rfl (zhwB zw_RefM_40) ?_
    refine xg_step rfl rfl (fun k => rfl) ?_
    refine xg_get rfl rfl (zha (by decide)) zc_RefM rfl rfl ?_
    refine xg_step rfl rfl (fun k => rfl) ?_
    refine xg_step rfl rfl (fun k => rfl) ?_
    refine zg_geti (x := (C 107 40) + 1) rfl rfl (zha (by decide)) zc_RefM rfl (zup_eq ⟨by omega, by omega⟩) ?_
    refine zg_ast (.inl ⟨rfl, rfl⟩) (zha (by decide)) zc_r_changeRead (by decide) ⟨by omega, by omega⟩ (zhwB (zwC zk_changeRead zw_r_changeRead (by omega))) ?_
    refine xg_step rfl rfl (fun k => rfl) ?_
    refine xg_get rfl rfl (zha (by decide)) zc_RefM rfl rfl ?_
    refine xg_step rfl rfl (fun k => rfl) ?_
    refine xg_step rfl rfl (fun k => rfl) ?_
    refine zg_ast (.inl ⟨rfl, rfl⟩) (zha (by decide)) zc_r_changeNumber (by decide) ⟨by omega, by omega⟩ (zhwB (zwC zk_changeNumber zw_r_changeNumber (by omega))) ?_
    refine xg_step rfl rfl (fun k => rfl) ?_
    refine xg_step rfl rfl (fun k => rfl) ?_
    refine xg_get rfl rfl (zha (by decide)) zc_RefM rfl rfl ?_
    refine xg_step rfl rfl (fun k => rfl) ?_
    refine zg_ald (.inl ⟨rfl, rfl⟩) (zha (by decide)) zc_r_view (by decide) ⟨by omega, by omega⟩ (zvB (zk_view (by omega)) (by omega)) ?_
    refine zg_eq rfl rfl (fun x y k => rfl) (by first | assumption | exact hA _ _ | exact hB _ _ | exact hC _ _ | exact zrg_max (by assumption) (hA _ _) | (constructor <;> omega)) (by first | assumption | exact hA _ _ | exact hB _ _ | exact hC _ _ | exact zrg_max (by assumption) (hA _ _) | (constructor <;> omega)) (fun hc => ?_) (fun hc => ?_)
    ·
      refine xg_step rfl rfl (fun k => rfl) ?_
      refine xg_get rfl rfl (zha (by decide)) zc_RefM rfl rfl ?_
      refine xg_step rfl rfl (fun k => rfl) ?_
      refine zg_ald (.inr ⟨rfl, rfl⟩) (zha (by decide)) zc_r_active (by decide) ⟨by omega, by omega⟩ (zvB (zk_active (by omega)) (by omega)) ?_
      refine zg_eq0 rfl rfl (fun x k => rfl) (by first | assumption | exact hA _ _ | exact hB _ _ | exact hC _ _ | exact zrg_max (by assumption) (hA _ _) | (constructor <;> omega)) (fun hc => ?_) (fun hc => ?_)
      ·
        refine xg_step rfl rfl (fun k => rfl) ?_
        refine xg_step rfl rfl (fun k => rfl) ?_
        refine zg_rem rfl (by omega) ?_
        refine xg_step rfl rfl (fun k => rfl) ?_
        refine zg_eq rfl rfl (fun x y k => rfl) (by first | assumption | exact hA _ _ | exact hB _ _ | exact hC _ _ | exact zrg_max (by assumption) (hA _ _) | (constructor <;> omega)) (by first | assumption | exact hA _ _ | exact hB _ _ | exact hC _ _ | exact zrg_max (by assumption) (hA _ _) | (constructor <;> omega)) (fun hc => ?_) (fun hc => ?_)
        ·
          have e : zch C t s k w = (zup (zup (zup C 107 40 ((C 107 40) + 1)) 142 ((((t * 31) + w) * 3) + s) ((C 107 40) + 1)) 143 ((((t * 31) + w) * 3) + s) k) := if_pos (by omega)
          rw [e] at hC1 hch hmid
          rw [← znote_gh (B := B) ht (v := w) (p := k * 3 + s)]
          exact zm_125y (znote_rg (p := k * 3 + s) hB ⟨by omega, by omega⟩) hC1 ht hw hch hg hmid
        ·
          refine zg_ret rfl rfl ?_
          exact (by omega : False).elim
      ·
        refine zg_ret rfl rfl ?_
        exact (by omega : False).elim
    ·
      refine zg_ret rfl rfl ?_
      exact (by omega : False).elim
  ·
    refine xg_step rfl rfl (fun k => rfl) ?_
    refine xg_step rfl rfl (fun k => rfl) ?_
    refine xg_get rfl rfl (zha (by decide)) zc_RefM rfl rfl ?_
    refine xg_step rfl rfl (fun k => rfl) ?_
    refine zg_ald (.inl ⟨rfl, rfl⟩) (zha (by decide)) zc_r_view (by decide) ⟨by omega, by omega⟩ (zvB (zk_view (by omega)) (by omega)) ?_
    refine zg_eq rfl rfl (fun x y k => rfl) (by first | assumption | exact hA _ _ | exact hB _ _ | exact hC _ _ | exact zrg_max (by assumption) (hA _ _) | (constructor <;> omega)) (by first | assumption | exact hA _ _ | exact hB _ _ | exact hC _ _ | exact zrg_max (by assumption) (hA _ _) | (constructor <;> omega)) (fun hc => ?_) (fun hc => ?_)
    ·
      refine xg_step rfl rfl (fun k => rfl) ?_
      refine xg_get rfl rfl (zha (by decide)) zc_RefM rfl rfl ?_
      refine xg_step rfl rfl (fun k => rfl) ?_
      refine zg_ald (.inr ⟨rfl, rfl⟩) (zha (by decide)) zc_r_active (by decide) ⟨by omega, by omega⟩ (zvB (zk_active (by omega)) (by omega)) ?_
      refine zg_eq0 rfl rfl (fun x k => rfl) (by first | assumption | exact hA _ _ | exact hB _ _ | exact hC _ _ | exact zrg_max (by assumption) (hA _ _) | (constructor <;> omega)) (fun hc => ?_) (fun hc => ?_)
      ·
        refine xg_step rfl rfl (fun k => rfl) ?_
        refine xg_step rfl rfl (fun k => rfl) ?_
        refine zg_rem rfl (by omega) ?_
        refine xg_step rfl rfl (fun k => rfl) ?_
        refine zg_eq rfl rfl (fun x y k => rfl) (by first | assumption | exact hA _ _ | exact hB _ _ | exact hC _ _ | exact zrg_max (by assumption) (hA _ _) | (constructor <;> omega)) (by first | assumption | exact hA _ _ | exact hB _ _ | exact hC _ _ | exact zrg_max (by assumption) (hA _ _) | (constructor <;> omega)) (fun hc => ?_) (fun hc => ?_)
        ·
          have e : zch C t s k w = C := if_neg (by omega)
          rw [e] at hC1 hch hmid
          rw [← znote_gh (B := B) ht (v := w) (p := k * 3 + s)]
          exact zm_125y (znote_rg (p := k * 3 + s) hB ⟨by omega, by omega⟩) hC1 ht hw hch hg hmid
        ·
          refine zg_ret rfl rfl ?_
          exact (by omega : False).elim
      ·
        refine zg_ret rfl rfl ?_
        exact (by omega : False).elim
    ·
      refine zg_ret rfl rfl ?_
      exact (by omega : False).elim
set_option maxRecDepth 10000 in
theorem zq_104 {d : Nat} {A B C : ZM} (hB : zRg B) (hC : zRg C)  : XR (d + 1) 104 [.ref 107] (zhp A (zmg B C)) (some (zci (C 107 0)), zhp A (zmg B C)) := by
  refine XR.of (Nat.le_of_ble_eq_true rfl) rfl ?_
  refine xg_step rfl rfl (fun k => rfl) ?_
  refine xg_get rfl rfl (zha (by decide)) zc_RefM rfl rfl ?_
  refine zg_iret rfl rfl zfitI ?_
  rfl
set_option maxRecDepth 10000 in
theorem zq_130 {d : Nat} {A B C : ZM} (hB : zRg B) (hC : zRg C) {p : Int} (hp : zrg p) : XR (d + 1) 130 [zci (p)] (zhp A (zmg B C)) (some (zci (zb2 (0 ≤ p ∧ p < 3))), zhp A (zmg B C)) := by
  refine XR.of (Nat.le_of_ble_eq_true rfl) rfl ?_
  refine xg_step rfl rfl (fun k => rfl) ?_
  refine zg_lt0 rfl rfl (fun x k => rfl) (by first | assumption | exact hA _ _ | exact hB _ _ | exact hC _ _ | exact zrg_max (by assumption) (hA _ _) | (constructor <;> omega)) (fun hc => ?_) (fun hc => ?_)
  ·
    refine xg_step rfl rfl (fun k => rfl) ?_
    refine zg_iret rfl rfl (zfitZ (by omega)) ?_
    exact zl0 (by omega)
  ·
    refine xg_step rfl rfl (fun k => rfl) ?_
    refine xg_step rfl rfl (fun k => rfl) ?_
    refine zg_lt rfl rfl (fun x y k => rfl) (by first | assumption | exact hA _ _ | exact hB _ _ | exact hC _ _ | exact zrg_max (by assumption) (hA _ _) | (constructor <;> omega)) (by first | assumption | exact hA _ _ | exact hB _ _ | exact hC _ _ | exact zrg_max (by assumption) (hA _ _) | (constructor <;> omega)) (fun hc => ?_) (fun hc => ?_)
    ·
      refine xg_step rfl rfl (fun k => rfl) ?_
      refine xg_step rfl rfl (fun k => rfl) ?_
      refine zg_iret rfl rfl (zfitZ (by omega)) ?_
      exact zl1 (by omega)
    ·
      refine xg_step rfl rfl (fun k => rfl) ?_
      refine zg_iret rfl rfl (zfitZ (by omega)) ?_
      exact zl0 (by omega)
set_option maxRecDepth 10000 in
theorem zq_131 {d : Nat} {A B C : ZM} (hB : zRg B) (hC : zRg C) {r : Int} (hr : zrg r) : XR (d + 1) 131 [.ref 107, zci (r)] (zhp A (zmg B C)) (some (zci (zb2 (0 ≤ r ∧ r < B 1 6))), zhp A (zmg B C)) := by
  refine XR.of (Nat.le_of_ble_eq_true rfl) rfl ?_
  refine xg_step rfl rfl (fun k => rfl) ?_
  refine zg_lt0 rfl rfl (fun x k => rfl) (by first | assumption | exact hA _ _ | exact hB _ _ | exact hC _ _ | exact zrg_max (by assumption) (hA _ _) | (constructor <;> omega)) (fun hc => ?_) (fun hc => ?_)
  ·
    refine xg_step rfl rfl (fun k => rfl) ?_
    refine zg_iret rfl rfl (zfitZ (by omega)) ?_
    exact zl0 (by omega)
  ·
    refine xg_step rfl rfl (fun k => rfl) ?_
    refine xg_step rfl rfl (fun k => rfl) ?_
    refine xg_get rfl rfl (zha (by decide)) zc_RefM rfl rfl ?_
    refine zg_lt rfl rfl (fun x y k => rfl) (by first | assumption | exact hA _ _ | exact hB _ _ | exact hC _ _ | exact zrg_max (by assumption) (hA _ _) | (constructor <;> omega)) (by first | assumption | exact hA _ _ | exact hB _ _ | exact hC _ _ | exact zrg_max (by assumption) (hA _ _) | (constructor <;> omega)) (fun hc => ?_) (fun hc => ?_)
    ·
      refine xg_step rfl rfl (fun k => rfl) ?_
      refine xg_step rfl rfl (fun k => rfl) ?_
      refine zg_iret rfl rfl (zfitZ (by omega)) ?_
      exact zl1 (by omega)
    ·
      refine xg_step rfl rfl (fun k => rfl) ?_
      refine zg_iret rfl rfl (zfitZ (by omega)) ?_
      exact zl0 (by omega)
set_option maxRecDepth 10000 in
theorem zq_132t {d : Nat} {A B C : ZM} {w : Int} : XR (d + 1) 132 [.ref 107, zci 1, zci w] (zhp A (zmg B C)) (some (zci 1), zhp A (zmg B (zup C 107 0 w))) := by
  refine XR.of (Nat.le_of_ble_eq_true rfl) rfl ?_
  refine xg_step rfl rfl (fun k => rfl) ?_
  refine xg_step rfl rfl (fun k => rfl) ?_
  refine xg_step rfl rfl (fun k => rfl) ?_
  refine xg_step rfl rfl (fun k => rfl) ?_
  refine xg_step rfl rfl (fun k => rfl) ?_
  refine zg_put rfl rfl (zha (by decide)) zc_RefM (Nat.le_of_ble_eq_true rfl) rfl zfitI rfl (zhwB zw_RefM_0) ?_
  refine xg_step rfl rfl (fun k => rfl) ?_
  refine zg_iret rfl rfl (zfitZ (by omega)) ?_
  rfl
set_option maxRecDepth 10000 in
theorem zq_132f {d : Nat} {A B C : ZM} {w : Int} : XR (d + 1) 132 [.ref 107, zci 0, zci w] (zhp A (zmg B C)) (some (zci 0), zhp A (zmg B (zup C 107 0 0))) := by
  refine XR.of (Nat.le_of_ble_eq_true rfl) rfl ?_
  refine xg_step rfl rfl (fun k => rfl) ?_
  refine xg_step rfl rfl (fun k => rfl) ?_
  refine xg_step rfl rfl (fun k => rfl) ?_
  refine xg_step rfl rfl (fun k => rfl) ?_
  refine zg_put rfl rfl (zha (by decide)) zc_RefM (Nat.le_of_ble_eq_true rfl) rfl zfitI rfl (zhwB zw_RefM_0) ?_
  refine xg_step rfl rfl (fun k => rfl) ?_
  refine zg_iret rfl rfl (zfitZ (by omega)) ?_
  rfl
/-- a message of s is to be read next by t -/
abbrev zNr (B : ZM) (t s : Int) : Prop := s = t ∨ ¬ (1 ≤ B (59 + 17 * t) s ∧ B (59 + 17 * t) s ≤ B (44 + 2 * s) 1) ∨ B (58 + 17 * t) (s * 101 + B (59 + 17 * t) s) = 0 ∨ zWt B t s (B (59 + 17 * t) s)
set_option maxRecDepth 10000 in
theorem zq_128n {d : Nat} {A B C : ZM} (hB : zRg B) (hC : zRg C) (hL : zLI B C) {t n s : Int} {o4 : Option Value} (ht : 0 ≤ t ∧ t < 3) (hnx : ∀ p, 0 ≤ p ∧ p < 3 → 1 ≤ B (59 + 17 * t) p ∧ B (59 + 17 * t) p ≤ 101) (hs : 0 ≤ s ∧ s ≤ 3) (hno : ∀ p, s ≤ p ∧ p < 3 → zNr B t p) : XG (d + 10) 128 4 [some (.ref 107), some (zci (t)), some (zci (n)), some (zci (s)), o4] [] (zhp A (zmg B C)) (some (zci n), zhp A (zmg B C)) := by
  have hns : s < 3 → 1 ≤ B (59 + 17 * t) s ∧ B (59 + 17 * t) s ≤ 101 := fun q => hnx s (by omega)
  have hcs : s < 3 → 0 ≤ B (44 + 2 * s) 1 ∧ B (44 + 2 * s) 1 ≤ 100 := fun q => hL.1 s (by omega)
  refine xg_step rfl rfl (fun k => rfl) ?_
  refine xg_step rfl rfl (fun k => rfl) ?_
  refine zg_lt rfl rfl (fun x y k => rfl) (by first | assumption | exact hA _ _ | exact hB _ _ | exact hC _ _ | exact zrg_max (by assumption) (hA _ _) | (constructor <;> omega)) (by first | assumption | exact hA _ _ | exact hB _ _ | exact hC _ _ | exact zrg_max (by assumption) (hA _ _) | (constructor <;> omega)) (fun hc => ?_) (fun hc => ?_)
  ·
    refine xg_step rfl rfl (fun k => rfl) ?_
    refine xg_get rfl rfl (zha (by decide)) zc_RefM rfl rfl ?_
    refine xg_step rfl rfl (fun k => rfl) ?_
    refine xg_step rfl rfl (fun k => rfl) ?_
    refine zg_mul rfl ?_
    refine xg_step rfl rfl (fun k => rfl) ?_
    refine zg_add rfl ?_
    refine zg_ald (.inl ⟨rfl, rfl⟩) (zha (by decide)) zc_r_next (by decide) ⟨by omega, by omega⟩ (zvB (zk_next (by omega) (by omega)) (by omega)) ?_
    refine xg_step rfl rfl (fun k => rfl) ?_
    refine xg_step rfl rfl (fun k => rfl) ?_
    refine xg_step rfl rfl (fun k => rfl) ?_
    refine zg_eq rfl rfl (fun x y k => rfl) (by first | assumption | exact hA _ _ | exact hB _ _ | exact hC _ _ | exact zrg_max (by assumption) (hA _ _) | (constructor <;> omega)) (by first | assumption | exact hA _ _ | exact hB _ _ | exact hC _ _ | exact zrg_max (by assumption) (hA _ _) | (constructor <;> omega)) (fun hc => ?_) (fun hc => ?_)
    ·
      refine zg_inc rfl rfl rfl rfl ?_
      refine xg_step rfl rfl (fun k => rfl) ?_
      exact zq_128n hB hC hL ht hnx (by omega) (fun p hp => hno p (by omega))
    ·
      refine xg_step rfl rfl (fun k => rfl) ?_
      refine xg_step rfl rfl (fun k => rfl) ?_
      refine xg_step rfl rfl (fun k => rfl) ?_
      refine zg_cvb rfl rfl rfl (Nat.le_of_ble_eq_true rfl) (zha (by decide)) zc_RefM rfl rfl (zq_107 hB hC (by omega) (by first | assumption | exact hA _ _ | exact hB _ _ | exact hC _ _ | exact zrg_max (by assumption) (hA _ _) | (constructor <;> omega))) (fun hc => ?_) (fun hc => ?_)
      ·
        refine xg_step rfl rfl (fun k => rfl) ?_
        refine xg_step rfl rfl (fun k => rfl) ?_
        refine xg_get rfl rfl (zha (by decide)) zc_RefM rfl rfl ?_
        refine zg_si rfl (by decide) ?_
        refine xg_step rfl rfl (fun k => rfl) ?_
        refine zg_mul rfl ?_
        refine xg_step rfl rfl (fun k => rfl) ?_
        refine xg_step rfl rfl (fun k => rfl) ?_
        refine zg_csi rfl rfl (by decide) rfl rfl (Nat.le_of_ble_eq_true rfl) rfl (zq_106 hB hC) ?_
        refine zg_add rfl ?_
        refine zg_ald (.inr ⟨rfl, rfl⟩) (zha (by decide)) zc_r_brought (by decide) ⟨by omega, by omega⟩ (zvB (zk_brought2 (by omega) (by omega) (by omega)) (by omega)) ?_
        refine zg_eq0 rfl rfl (fun x k => rfl) (by first | assumption | exact hA _ _ | exact hB _ _ | exact hC _ _ | exact zrg_max (by assumption) (hA _ _) | (constructor <;> omega)) (fun hc => ?_) (fun hc => ?_)
        ·
          refine zg_inc rfl rfl rfl rfl ?_
          refine xg_step rfl rfl (fun k => rfl) ?_
          exact zq_128n hB hC hL ht hnx (by omega) (fun p hp => hno p (by omega))
        ·
          refine xg_step rfl rfl (fun k => rfl) ?_
          refine xg_step rfl rfl (fun k => rfl) ?_
          refine xg_step rfl rfl (fun k => rfl) ?_
          refine xg_step rfl rfl (fun k => rfl) ?_
          refine zg_cvb rfl rfl rfl (Nat.le_of_ble_eq_true rfl) (zha (by decide)) zc_RefM rfl rfl (zq_129 hB hC hL ht (by omega) (by omega)) (fun hc => ?_) (fun hc => ?_)
          ·
            refine xg_step rfl rfl (fun k => rfl) ?_
            refine zg_inc rfl rfl rfl rfl ?_
            refine xg_step rfl rfl (fun k => rfl) ?_
            exact zq_128n hB hC hL ht hnx (by omega) (fun p hp => hno p (by omega))
          ·
            refine xg_step rfl rfl (fun k => rfl) ?_
            exact (by rcases hno s (by omega) with q | q | q | q <;> first | omega | contradiction : False).elim
      ·
        refine xg_step rfl rfl (fun k => rfl) ?_
        refine zg_inc rfl rfl rfl rfl ?_
        refine xg_step rfl rfl (fun k => rfl) ?_
        exact zq_128n hB hC hL ht hnx (by omega) (fun p hp => hno p (by omega))
  ·
    refine xg_step rfl rfl (fun k => rfl) ?_
    refine zg_iret rfl rfl zfitI ?_
    rfl
termination_by (3 - s).toNat
decreasing_by all_goals omega
set_option maxRecDepth 10000 in
theorem zq_128y {d : Nat} {A B C : ZM} (hB : zRg B) (hC : zRg C) (hL : zLI B C) {t n s p : Int} {o4 : Option Value} (ht : 0 ≤ t ∧ t < 3) (hnx : ∀ p, 0 ≤ p ∧ p < 3 → 1 ≤ B (59 + 17 * t) p ∧ B (59 + 17 * t) p ≤ 101) (hs : 0 ≤ s ∧ s ≤ p) (hp : p < 3) (hno : ∀ q, s ≤ q ∧ q < p → zNr B t q) (hyes : ¬ zNr B t p) {B2 C2 : ZM} (hread : XR (d + 16) 122 [.ref 107, zci t, zci p, zci (B (59 + 17 * t) p)] (zhp A (zmg (zup B (59 + 17 * t) p (B (59 + 17 * t) p + 1)) C)) (none, zhp A (zmg B2 C2))) {r : Option Value × XS} (hx : ∀ o4, XG (d + 16) 128 4 [some (.ref 107), some (zci t), some (zci (n + 1)), some (zci 0), o4] [] (zhp A (zmg B2 C2)) r) : XG (d + 16) 128 4 [some (.ref 107), some (zci (t)), some (zci (n)), some (zci (s)), o4] [] (zhp A (zmg B C)) r := by
  have hns : s < 3 → 1 ≤ B (59 + 17 * t) s ∧ B (59 + 17 * t) s ≤ 101 := fun q => hnx s (by omega)
  have hcs : s < 3 → 0 ≤ B (44 + 2 * s) 1 ∧ B (44 + 2 * s) 1 ≤ 100 := fun q => hL.1 s (by omega)
  refine xg_step rfl rfl (fun k => rfl) ?_
  refine xg_step rfl rfl (fun k => rfl) ?_
  refine zg_lt rfl rfl (fun x y k => rfl) (by first | assumption | exact hA _ _ | exact hB _ _ | exact hC _ _ | exact zrg_max (by assumption) (hA _ _) | (constructor <;> omega)) (by first | assumption | exact hA _ _ | exact hB _ _ | exact hC _ _ | exact zrg_max (by assumption) (hA _ _) | (constructor <;> omega)) (fun hc => ?_) (fun hc => ?_)
  ·
    refine xg_step rfl rfl (fun k => rfl) ?_
    refine xg_get rfl rfl (zha (by decide)) zc_RefM rfl rfl ?_
    refine xg_step rfl rfl (fun k => rfl) ?_
    refine xg_step rfl rfl (fun k => rfl) ?_
    refine zg_mul rfl ?_
    refine xg_step rfl rfl (fun k => rfl) ?_
    refine zg_add rfl ?_
    refine zg_ald (.inl ⟨rfl, rfl⟩) (zha (by decide)) zc_r_next (by decide) ⟨by omega, by omega⟩ (zvB (zk_next (by omega) (by omega)) (by omega)) ?_
    refine xg_step rfl rfl (fun k => rfl) ?_
    refine xg_step rfl rfl (fun k => rfl) ?_
    refine xg_step rfl rfl (fun k => rfl) ?_
    refine zg_eq rfl rfl (fun x y k => rfl) (by first | assumption | exact hA _ _ | exact hB _ _ | exact hC _ _ | exact zrg_max (by assumption) (hA _ _) | (constructor <;> omega)) (by first | assumption | exact hA _ _ | exact hB _ _ | exact hC _ _ | exact zrg_max (by assumption) (hA _ _) | (constructor <;> omega)) (fun hc => ?_) (fun hc => ?_)
    ·
      refine zg_inc rfl rfl rfl rfl ?_
      refine xg_step rfl rfl (fun k => rfl) ?_
      exact zq_128y hB hC hL ht hnx (by have hne : s ≠ p := (fun e => by subst e; exact hyes (by simp only [zNr]; first | (left; assumption) | (right; left; assumption) | (right; right; left; assumption) | (right; right; right; assumption))); omega) hp (fun q hq => hno q (by omega)) hyes hread hx
    ·
      refine xg_step rfl rfl (fun k => rfl) ?_
      refine xg_step rfl rfl (fun k => rfl) ?_
      refine xg_step rfl rfl (fun k => rfl) ?_
      refine zg_cvb rfl rfl rfl (Nat.le_of_ble_eq_true rfl) (zha (by decide)) zc_RefM rfl rfl (zq_107 hB hC (by omega) (by first | assumption | exact hA _ _ | exact hB _ _ | exact hC _ _ | exact zrg_max (by assumption) (hA _ _) | (constructor <;> omega))) (fun hc => ?_) (fun hc => ?_)
      ·
        refine xg_step rfl rfl (fun k => rfl) ?_
        refine xg_step rfl rfl (fun k => rfl) ?_
        refine xg_get rfl rfl (zha (by decide)) zc_RefM rfl rfl ?_
        refine zg_si rfl (by decide) ?_
        refine xg_step rfl rfl (fun k => rfl) ?_
        refine zg_mul rfl ?_
        refine xg_step rfl rfl (fun k => rfl) ?_
        refine xg_step rfl rfl (fun k => rfl) ?_
        refine zg_csi rfl rfl (by decide) rfl rfl (Nat.le_of_ble_eq_true rfl) rfl (zq_106 hB hC) ?_
        refine zg_add rfl ?_
        refine zg_ald (.inr ⟨rfl, rfl⟩) (zha (by decide)) zc_r_brought (by decide) ⟨by omega, by omega⟩ (zvB (zk_brought2 (by omega) (by omega) (by omega)) (by omega)) ?_
        refine zg_eq0 rfl rfl (fun x k => rfl) (by first | assumption | exact hA _ _ | exact hB _ _ | exact hC _ _ | exact zrg_max (by assumption) (hA _ _) | (constructor <;> omega)) (fun hc => ?_) (fun hc => ?_)
        ·
          refine zg_inc rfl rfl rfl rfl ?_
          refine xg_step rfl rfl (fun k => rfl) ?_
          exact zq_128y hB hC hL ht hnx (by have hne : s ≠ p := (fun e => by subst e; exact hyes (by simp only [zNr]; first | (left; assumption) | (right; left; assumption) | (right; right; left; assumption) | (right; right; right; assumption))); omega) hp (fun q hq => hno q (by omega)) hyes hread hx
        ·
          refine xg_step rfl rfl (fun k => rfl) ?_
          refine xg_step rfl rfl (fun k => rfl) ?_
          refine xg_step rfl rfl (fun k => rfl) ?_
          refine xg_step rfl rfl (fun k => rfl) ?_
          refine zg_cvb rfl rfl rfl (Nat.le_of_ble_eq_true rfl) (zha (by decide)) zc_RefM rfl rfl (zq_129 hB hC hL ht (by omega) (by omega)) (fun hc => ?_) (fun hc => ?_)
          ·
            refine xg_step rfl rfl (fun k => rfl) ?_
            refine zg_inc rfl rfl rfl rfl ?_
            refine xg_step rfl rfl (fun k => rfl) ?_
            exact zq_128y hB hC hL ht hnx (by have hne : s ≠ p := (fun e => by subst e; exact hyes (by simp only [zNr]; first | (left; assumption) | (right; left; assumption) | (right; right; left; assumption) | (right; right; right; assumption))); omega) hp (fun q hq => hno q (by omega)) hyes hread hx
          ·
            refine xg_step rfl rfl (fun k => rfl) ?_
            have hsp : s = p := Classical.byContradiction (fun e => by rcases hno s (by omega) with q | q | q | q <;> first | omega | contradiction)
            subst hsp
            refine xg_step rfl rfl (fun k => rfl) ?_
            refine xg_get rfl rfl (zha (by decide)) zc_RefM rfl rfl ?_
            refine xg_step rfl rfl (fun k => rfl) ?_
            refine xg_step rfl rfl (fun k => rfl) ?_
            refine zg_mul rfl ?_
            refine xg_step rfl rfl (fun k => rfl) ?_
            refine zg_add rfl ?_
            refine xg_step rfl rfl (fun k => rfl) ?_
            refine xg_step rfl rfl (fun k => rfl) ?_
            refine zg_add rfl ?_
            refine zg_ast (.inl ⟨rfl, rfl⟩) (zha (by decide)) zc_r_next (by decide) ⟨by omega, by omega⟩ (zhwB (zwB (zk_next (by omega) (by omega)) zw_r_next (by omega))) ?_
            refine xg_step rfl rfl (fun k => rfl) ?_
            refine xg_step rfl rfl (fun k => rfl) ?_
            refine xg_step rfl rfl (fun k => rfl) ?_
            refine xg_step rfl rfl (fun k => rfl) ?_
            refine zg_cvv rfl rfl rfl (Nat.le_of_ble_eq_true rfl) (zha (by decide)) zc_RefM rfl rfl hread ?_
            refine zg_inc rfl rfl rfl rfl ?_
            refine xg_step rfl rfl (fun k => rfl) ?_
            refine xg_step rfl rfl (fun k => rfl) ?_
            refine xg_step rfl rfl (fun k => rfl) ?_
            exact hx _
      ·
        refine xg_step rfl rfl (fun k => rfl) ?_
        refine zg_inc rfl rfl rfl rfl ?_
        refine xg_step rfl rfl (fun k => rfl) ?_
        exact zq_128y hB hC hL ht hnx (by have hne : s ≠ p := (fun e => by subst e; exact hyes (by simp only [zNr]; first | (left; assumption) | (right; left; assumption) | (right; right; left; assumption) | (right; right; right; assumption))); omega) hp (fun q hq => hno q (by omega)) hyes hread hx
  ·
    refine xg_step rfl rfl (fun k => rfl) ?_
    refine zg_iret rfl rfl zfitI ?_
    exact (by omega : False).elim
termination_by (3 - s).toNat
decreasing_by all_goals omega
