/-! the reference: turning over, late, ask, bring -/
set_option maxRecDepth 10000 in
theorem zm_135n {d : Nat} {A B C : ZM} (hB : zRg B) (hC : zRg C) {t x : Int} {o2 o4 o5 : Option Value} (ht : 0 ≤ t ∧ t < 3) (hxr : -1 ≤ x ∧ x < 31) (hvw : 0 ≤ B (56 + 17 * t) 7 ∧ B (56 + 17 * t) 7 < 31) (hq : ¬ B (56 + 17 * t) 7 < x) {B2 C2 : ZM} {n : Int} (hmid : XR (d + 2) 128 [.ref 107, zci t] (zhp A (zmg B C)) (some (zci n), zhp A (zmg B2 C2))) : XG (d + 2) 135 55 [some (.ref 107), some (zci (t)), o2, some (zci (x)), o4, o5] [] (zhp A (zmg B C)) (some (zci 0), zhp A (zmg B2 C2)) := by
  refine xg_step rfl rfl (fun k => rfl) ?_
  refine xg_step rfl rfl (fun k => rfl) ?_
  refine xg_get rfl rfl (zha (by decide)) zc_RefM rfl rfl ?_
  refine xg_step rfl rfl (fun k => rfl) ?_
  refine zg_ald (.inl ⟨rfl, rfl⟩) (zha (by decide)) zc_r_view (by decide) ⟨by omega, by omega⟩ (zvB (zk_view (by omega)) (by omega)) ?_
  refine zg_gt rfl rfl (fun x y k => rfl) (by first | assumption | exact hA _ _ | exact hB _ _ | exact hC _ _ | exact zrg_max (by assumption) (hA _ _) | (constructor <;> omega)) (by first | assumption | exact hA _ _ | exact hB _ _ | exact hC _ _ | exact zrg_max (by assumption) (hA _ _) | (constructor <;> omega)) (fun hc => ?_) (fun hc => ?_)
  ·
    refine xg_step rfl rfl (fun k => rfl) ?_
    refine xg_step rfl rfl (fun k => rfl) ?_
    refine xg_step rfl rfl (fun k => rfl) ?_
    refine xg_step rfl rfl (fun k => rfl) ?_
    refine xg_step rfl rfl (fun k => rfl) ?_
    exact (by omega : False).elim
  ·
    refine xg_step rfl rfl (fun k => rfl) ?_
    refine xg_step rfl rfl (fun k => rfl) ?_
    refine xg_step rfl rfl (fun k => rfl) ?_
    refine xg_step rfl rfl (fun k => rfl) ?_
    refine xg_step rfl rfl (fun k => rfl) ?_
    refine xg_step rfl rfl (fun k => rfl) ?_
    refine zg_cvi rfl rfl rfl (Nat.le_of_ble_eq_true rfl) (zha (by decide)) zc_RefM rfl rfl hmid ?_
    refine xg_step rfl rfl (fun k => rfl) ?_
    refine xg_step rfl rfl (fun k => rfl) ?_
    refine zg_iret rfl rfl (zfitZ (by omega)) ?_
    first | rfl | exact (by omega : False).elim
set_option maxRecDepth 10000 in
theorem zm_135y {d : Nat} {A B C : ZM} (hB : zRg B) (hC : zRg C) {t x : Int} {o2 o4 o5 : Option Value} (ht : 0 ≤ t ∧ t < 3) (hxr : -1 ≤ x ∧ x < 31) (hvw : 0 ≤ B (56 + 17 * t) 7 ∧ B (56 + 17 * t) 7 < 31) (hq : B (56 + 17 * t) 7 < x) {B2 C2 B3 C3 : ZM} {n rv : Int} (hm1 : XR (d + 2) 121 [.ref 107, zci t, zci 2, zci x, zci 0, zci 0] (zhp A (zmg (zturn B t x 0) (zup C 140 t 0))) (some (zci rv), zhp A (zmg B2 C2))) (hm2 : XR (d + 2) 128 [.ref 107, zci t] (zhp A (zmg B2 C2)) (some (zci n), zhp A (zmg B3 C3))) : XG (d + 2) 135 55 [some (.ref 107), some (zci (t)), o2, some (zci (x)), o4, o5] [] (zhp A (zmg B C)) (some (zci 1), zhp A (zmg B3 C3)) := by
  refine xg_step rfl rfl (fun k => rfl) ?_
  refine xg_step rfl rfl (fun k => rfl) ?_
  refine xg_get rfl rfl (zha (by decide)) zc_RefM rfl rfl ?_
  refine xg_step rfl rfl (fun k => rfl) ?_
  refine zg_ald (.inl ⟨rfl, rfl⟩) (zha (by decide)) zc_r_view (by decide) ⟨by omega, by omega⟩ (zvB (zk_view (by omega)) (by omega)) ?_
  refine zg_gt rfl rfl (fun x y k => rfl) (by first | assumption | exact hA _ _ | exact hB _ _ | exact hC _ _ | exact zrg_max (by assumption) (hA _ _) | (constructor <;> omega)) (by first | assumption | exact hA _ _ | exact hB _ _ | exact hC _ _ | exact zrg_max (by assumption) (hA _ _) | (constructor <;> omega)) (fun hc => ?_) (fun hc => ?_)
  ·
    refine xg_step rfl rfl (fun k => rfl) ?_
    refine xg_step rfl rfl (fun k => rfl) ?_
    refine xg_step rfl rfl (fun k => rfl) ?_
    refine xg_step rfl rfl (fun k => rfl) ?_
    refine xg_step rfl rfl (fun k => rfl) ?_
    refine xg_step rfl rfl (fun k => rfl) ?_
    refine xg_step rfl rfl (fun k => rfl) ?_
    refine xg_step rfl rfl (fun k => rfl) ?_
    refine xg_step rfl rfl (fun k => rfl) ?_
    refine zg_cvv rfl rfl rfl (Nat.le_of_ble_eq_true rfl) (zha (by decide)) zc_RefM rfl rfl (zq_120 hB hC ht ⟨by omega, by omega⟩ (by omega)) ?_
    refine xg_step rfl rfl (fun k => rfl) ?_
    refine xg_step rfl rfl (fun k => rfl) ?_
    refine xg_step rfl rfl (fun k => rfl) ?_
    refine xg_step rfl rfl (fun k => rfl) ?_
    refine xg_step rfl rfl (fun k => rfl) ?_
    refine xg_step rfl rfl (fun k => rfl) ?_
    refine zg_cvi rfl rfl rfl (Nat.le_of_ble_eq_true rfl) (zha (by decide)) zc_RefM rfl rfl hm1 ?_
    refine xg_step rfl rfl (fun k => rfl) ?_
    refine xg_step rfl rfl (fun k => rfl) ?_
    refine xg_step rfl rfl (fun k => rfl) ?_
    refine zg_cvi rfl rfl rfl (Nat.le_of_ble_eq_true rfl) (zha (by decide)) zc_RefM rfl rfl hm2 ?_
    refine xg_step rfl rfl (fun k => rfl) ?_
    refine xg_step rfl rfl (fun k => rfl) ?_
    refine zg_iret rfl rfl (zfitZ (by omega)) ?_
    first | rfl | exact (by omega : False).elim
  ·
    refine xg_step rfl rfl (fun k => rfl) ?_
    refine xg_step rfl rfl (fun k => rfl) ?_
    refine xg_step rfl rfl (fun k => rfl) ?_
    refine xg_step rfl rfl (fun k => rfl) ?_
    exact (by omega : False).elim
set_option maxRecDepth 10000 in
theorem zq_135n {d : Nat} {A B C : ZM} (hB : zRg B) (hC : zRg C) {t : Int} (ht : 0 ≤ t ∧ t < 3) (hvw : 0 ≤ B (56 + 17 * t) 7 ∧ B (56 + 17 * t) 7 < 31) (has : ∀ p, 0 ≤ p ∧ p < 3 → -1 ≤ B (66 + 17 * t) p ∧ B (66 + 17 * t) p < 31) (hq : ¬ B (56 + 17 * t) 7 < zSG B t) {B2 C2 : ZM} {n : Int} (hmid : XR (d + 2) 128 [.ref 107, zci t] (zhp A (zmg B C)) (some (zci n), zhp A (zmg B2 C2))) : XR (d + 3) 135 [.ref 107, zci (t)] (zhp A (zmg B C)) (some (zci 0), zhp A (zmg B2 C2)) := by
  have a0 := has 0 (by omega)
  have a1 := has 1 (by omega)
  have a2 := has 2 (by omega)
  refine XR.of (Nat.le_of_ble_eq_true rfl) rfl ?_
  refine xg_step rfl rfl (fun k => rfl) ?_
  refine xg_step rfl rfl (fun k => rfl) ?_
  refine xg_step rfl rfl (fun k => rfl) ?_
  refine xg_step rfl rfl (fun k => rfl) ?_
  refine xg_step rfl rfl (fun k => rfl) ?_
  refine xg_step rfl rfl (fun k => rfl) ?_
  show XG _ _ 7 [some (.ref 107), some (zci (t)), some (zci ((-1))), some (zci ((-1))), some (zci (0)), none] _ _ _
  refine xg_step rfl rfl (fun k => rfl) ?_
  refine xg_step rfl rfl (fun k => rfl) ?_
  refine xg_step rfl rfl (fun k => rfl) ?_
  refine xg_step rfl rfl (fun k => rfl) ?_
  refine xg_get rfl rfl (zha (by decide)) zc_RefM rfl rfl ?_
  refine xg_step rfl rfl (fun k => rfl) ?_
  refine xg_step rfl rfl (fun k => rfl) ?_
  refine zg_mul rfl ?_
  refine xg_step rfl rfl (fun k => rfl) ?_
  refine zg_add rfl ?_
  refine zg_ald (.inl ⟨rfl, rfl⟩) (zha (by decide)) zc_r_asked (by decide) ⟨by omega, by omega⟩ (zvB (zk_asked (by omega) (by omega)) (by omega)) ?_
  refine xg_step rfl rfl (fun k => rfl) ?_
  refine xg_step rfl rfl (fun k => rfl) ?_
  refine xg_step rfl rfl (fun k => rfl) ?_
  refine zg_gt rfl rfl (fun x y k => rfl) (by first | assumption | exact hA _ _ | exact hB _ _ | exact hC _ _ | exact zrg_max (by assumption) (hA _ _) | (constructor <;> omega)) (by first | assumption | exact hA _ _ | exact hB _ _ | exact hC _ _ | exact zrg_max (by assumption) (hA _ _) | (constructor <;> omega)) (fun hc => ?_) (fun hc => ?_)
  ·
    refine xg_step rfl rfl (fun k => rfl) ?_
    refine xg_step rfl rfl (fun k => rfl) ?_
    refine xg_step rfl rfl (fun k => rfl) ?_
    refine xg_step rfl rfl (fun k => rfl) ?_
    refine xg_step rfl rfl (fun k => rfl) ?_
    show XG _ _ 49 [some (.ref 107), some (zci (t)), some (zci (B (66 + 17 * t) 0)), some (zci ((-1))), some (zci (0)), some (zci (B (66 + 17 * t) 0))] _ _ _
    refine zg_inc (y := 1) rfl rfl (by decide) rfl ?_
    refine xg_step rfl rfl (fun k => rfl) ?_
    show XG _ _ 7 [some (.ref 107), some (zci (t)), some (zci (B (66 + 17 * t) 0)), some (zci ((-1))), some (zci (1)), some (zci (B (66 + 17 * t) 0))] _ _ _
    refine xg_step rfl rfl (fun k => rfl) ?_
    refine xg_step rfl rfl (fun k => rfl) ?_
    refine xg_step rfl rfl (fun k => rfl) ?_
    refine xg_step rfl rfl (fun k => rfl) ?_
    refine xg_get rfl rfl (zha (by decide)) zc_RefM rfl rfl ?_
    refine xg_step rfl rfl (fun k => rfl) ?_
    refine xg_step rfl rfl (fun k => rfl) ?_
    refine zg_mul rfl ?_
    refine xg_step rfl rfl (fun k => rfl) ?_
    refine zg_add rfl ?_
    refine zg_ald (.inl ⟨rfl, rfl⟩) (zha (by decide)) zc_r_asked (by decide) ⟨by omega, by omega⟩ (zvB (zk_asked (by omega) (by omega)) (by omega)) ?_
    refine xg_step rfl rfl (fun k => rfl) ?_
    refine xg_step rfl rfl (fun k => rfl) ?_
    refine xg_step rfl rfl (fun k => rfl) ?_
    refine zg_gt rfl rfl (fun x y k => rfl) (by first | assumption | exact hA _ _ | exact hB _ _ | exact hC _ _ | exact zrg_max (by assumption) (hA _ _) | (constructor <;> omega)) (by first | assumption | exact hA _ _ | exact hB _ _ | exact hC _ _ | exact zrg_max (by assumption) (hA _ _) | (constructor <;> omega)) (fun hc => ?_) (fun hc => ?_)
    ·
      refine xg_step rfl rfl (fun k => rfl) ?_
      refine xg_step rfl rfl (fun k => rfl) ?_
      refine xg_step rfl rfl (fun k => rfl) ?_
      refine xg_step rfl rfl (fun k => rfl) ?_
      refine xg_step rfl rfl (fun k => rfl) ?_
      show XG _ _ 49 [some (.ref 107), some (zci (t)), some (zci (B (66 + 17 * t) 1)), some (zci (B (66 + 17 * t) 0)), some (zci (1)), some (zci (B (66 + 17 * t) 1))] _ _ _
      refine zg_inc (y := 2) rfl rfl (by decide) rfl ?_
      refine xg_step rfl rfl (fun k => rfl) ?_
      show XG _ _ 7 [some (.ref 107), some (zci (t)), some (zci (B (66 + 17 * t) 1)), some (zci (B (66 + 17 * t) 0)), some (zci (2)), some (zci (B (66 + 17 * t) 1))] _ _ _
      refine xg_step rfl rfl (fun k => rfl) ?_
      refine xg_step rfl rfl (fun k => rfl) ?_
      refine xg_step rfl rfl (fun k => rfl) ?_
      refine xg_step rfl rfl (fun k => rfl) ?_
      refine xg_get rfl rfl (zha (by decide)) zc_RefM rfl rfl ?_
      refine xg_step rfl rfl (fun k => rfl) ?_
      refine xg_step rfl rfl (fun k => rfl) ?_
      refine zg_mul rfl ?_
      refine xg_step rfl rfl (fun k => rfl) ?_
      refine zg_add rfl ?_
      refine zg_ald (.inl ⟨rfl, rfl⟩) (zha (by decide)) zc_r_asked (by decide) ⟨by omega, by omega⟩ (zvB (zk_asked (by omega) (by omega)) (by omega)) ?_
      refine xg_step rfl rfl (fun k => rfl) ?_
      refine xg_step rfl rfl (fun k => rfl) ?_
      refine xg_step rfl rfl (fun k => rfl) ?_
      refine zg_gt rfl rfl (fun x y k => rfl) (by first | assumption | exact hA _ _ | exact hB _ _ | exact hC _ _ | exact zrg_max (by assumption) (hA _ _) | (constructor <;> omega)) (by first | assumption | exact hA _ _ | exact hB _ _ | exact hC _ _ | exact zrg_max (by assumption) (hA _ _) | (constructor <;> omega)) (fun hc => ?_) (fun hc => ?_)
      ·
        refine xg_step rfl rfl (fun k => rfl) ?_
        refine xg_step rfl rfl (fun k => rfl) ?_
        refine xg_step rfl rfl (fun k => rfl) ?_
        refine xg_step rfl rfl (fun k => rfl) ?_
        refine xg_step rfl rfl (fun k => rfl) ?_
        show XG _ _ 49 [some (.ref 107), some (zci (t)), some (zci (B (66 + 17 * t) 2)), some (zci (B (66 + 17 * t) 1)), some (zci (2)), some (zci (B (66 + 17 * t) 2))] _ _ _
        refine zg_inc (y := 3) rfl rfl (by decide) rfl ?_
        refine xg_step rfl rfl (fun k => rfl) ?_
        show XG _ _ 7 [some (.ref 107), some (zci (t)), some (zci (B (66 + 17 * t) 2)), some (zci (B (66 + 17 * t) 1)), some (zci (3)), some (zci (B (66 + 17 * t) 2))] _ _ _
        refine xg_step rfl rfl (fun k => rfl) ?_
        refine xg_step rfl rfl (fun k => rfl) ?_
        refine xg_step rfl rfl (fun k => rfl) ?_
        have e : B (66 + 17 * t) 1 = zSG B t := by simp only [zSG]; omega
        rw [← e] at hq
        exact zm_135n hB hC ht (by omega) hvw hq hmid
      ·
        refine xg_step rfl rfl (fun k => rfl) ?_
        refine xg_step rfl rfl (fun k => rfl) ?_
        refine zg_gt rfl rfl (fun x y k => rfl) (by first | assumption | exact hA _ _ | exact hB _ _ | exact hC _ _ | exact zrg_max (by assumption) (hA _ _) | (constructor <;> omega)) (by first | assumption | exact hA _ _ | exact hB _ _ | exact hC _ _ | exact zrg_max (by assumption) (hA _ _) | (constructor <;> omega)) (fun hc => ?_) (fun hc => ?_)
        ·
          refine xg_step rfl rfl (fun k => rfl) ?_
          refine xg_step rfl rfl (fun k => rfl) ?_
          show XG _ _ 49 [some (.ref 107), some (zci (t)), some (zci (B (66 + 17 * t) 1)), some (zci (B (66 + 17 * t) 2)), some (zci (2)), some (zci (B (66 + 17 * t) 2))] _ _ _
          refine zg_inc (y := 3) rfl rfl (by decide) rfl ?_
          refine xg_step rfl rfl (fun k => rfl) ?_
          show XG _ _ 7 [some (.ref 107), some (zci (t)), some (zci (B (66 + 17 * t) 1)), some (zci (B (66 + 17 * t) 2)), some (zci (3)), some (zci (B (66 + 17 * t) 2))] _ _ _
          refine xg_step rfl rfl (fun k => rfl) ?_
          refine xg_step rfl rfl (fun k => rfl) ?_
          refine xg_step rfl rfl (fun k => rfl) ?_
          have e : B (66 + 17 * t) 2 = zSG B t := by simp only [zSG]; omega
          rw [← e] at hq
          exact zm_135n hB hC ht (by omega) hvw hq hmid
        ·
          show XG _ _ 49 [some (.ref 107), some (zci (t)), some (zci (B (66 + 17 * t) 1)), some (zci (B (66 + 17 * t) 0)), some (zci (2)), some (zci (B (66 + 17 * t) 2))] _ _ _
          refine zg_inc (y := 3) rfl rfl (by decide) rfl ?_
          refine xg_step rfl rfl (fun k => rfl) ?_
          show XG _ _ 7 [some (.ref 107), some (zci (t)), some (zci (B (66 + 17 * t) 1)), some (zci (B (66 + 17 * t) 0)), some (zci (3)), some (zci (B (66 + 17 * t) 2))] _ _ _
          refine xg_step rfl rfl (fun k => rfl) ?_
          refine xg_step rfl rfl (fun k => rfl) ?_
          refine xg_step rfl rfl (fun k => rfl) ?_
          have e : B (66 + 17 * t) 0 = zSG B t := by simp only [zSG]; omega
          rw [← e] at hq
          exact zm_135n hB hC ht (by omega) hvw hq hmid
    ·
      refine xg_step rfl rfl (fun k => rfl) ?_
      refine xg_step rfl rfl (fun k => rfl) ?_
      refine zg_gt rfl rfl (fun x y k => rfl) (by first | assumption | exact hA _ _ | exact hB _ _ | exact hC _ _ | exact zrg_max (by assumption) (hA _ _) | (constructor <;> omega)) (by first | assumption | exact hA _ _ | exact hB _ _ | exact hC _ _ | exact zrg_max (by assumption) (hA _ _) | (constructor <;> omega)) (fun hc => ?_) (fun hc => ?_)
      ·
        refine xg_step rfl rfl (fun k => rfl) ?_
        refine xg_step rfl rfl (fun k => rfl) ?_
        show XG _ _ 49 [some (.ref 107), some (zci (t)), some (zci (B (66 + 17 * t) 0)), some (zci (B (66 + 17 * t) 1)), some (zci (1)), some (zci (B (66 + 17 * t) 1))] _ _ _
        refine zg_inc (y := 2) rfl rfl (by decide) rfl ?_
        refine xg_step rfl rfl (fun k => rfl) ?_
        show XG _ _ 7 [some (.ref 107), some (zci (t)), some (zci (B (66 + 17 * t) 0)), some (zci (B (66 + 17 * t) 1)), some (zci (2)), some (zci (B (66 + 17 * t) 1))] _ _ _
        refine xg_step rfl rfl (fun k => rfl) ?_
        refine xg_step rfl rfl (fun k => rfl) ?_
        refine xg_step rfl rfl (fun k => rfl) ?_
        refine xg_step rfl rfl (fun k => rfl) ?_
        refine xg_get rfl rfl (zha (by decide)) zc_RefM rfl rfl ?_
        refine xg_step rfl rfl (fun k => rfl) ?_
        refine xg_step rfl rfl (fun k => rfl) ?_
        refine zg_mul rfl ?_
        refine xg_step rfl rfl (fun k => rfl) ?_
        refine zg_add rfl ?_
        refine zg_ald (.inl ⟨rfl, rfl⟩) (zha (by decide)) zc_r_asked (by decide) ⟨by omega, by omega⟩ (zvB (zk_asked (by omega) (by omega)) (by omega)) ?_
        refine xg_step rfl rfl (fun k => rfl) ?_
        refine xg_step rfl rfl (fun k => rfl) ?_
        refine xg_step rfl rfl (fun k => rfl) ?_
        refine zg_gt rfl rfl (fun x y k => rfl) (by first | assumption | exact hA _ _ | exact hB _ _ | exact hC _ _ | exact zrg_max (by assumption) (hA _ _) | (constructor <;> omega)) (by first | assumption | exact hA _ _ | exact hB _ _ | exact hC _ _ | exact zrg_max (by assumption) (hA _ _) | (constructor <;> omega)) (fun hc => ?_) (fun hc => ?_)
        ·
          refine xg_step rfl rfl (fun k => rfl) ?_
          refine xg_step rfl rfl (fun k => rfl) ?_
          refine xg_step rfl rfl (fun k => rfl) ?_
          refine xg_step rfl rfl (fun k => rfl) ?_
          refine xg_step rfl rfl (fun k => rfl) ?_
          show XG _ _ 49 [some (.ref 107), some (zci (t)), some (zci (B (66 + 17 * t) 2)), some (zci (B (66 + 17 * t) 0)), some (zci (2)), some (zci (B (66 + 17 * t) 2))] _ _ _
          refine zg_inc (y := 3) rfl rfl (by decide) rfl ?_
          refine xg_step rfl rfl (fun k => rfl) ?_
          show XG _ _ 7 [some (.ref 107), some (zci (t)), some (zci (B (66 + 17 * t) 2)), some (zci (B (66 + 17 * t) 0)), some (zci (3)), some (zci (B (66 + 17 * t) 2))] _ _ _
          refine xg_step rfl rfl (fun k => rfl) ?_
          refine xg_step rfl rfl (fun k => rfl) ?_
          refine xg_step rfl rfl (fun k => rfl) ?_
          have e : B (66 + 17 * t) 0 = zSG B t := by simp only [zSG]; omega
          rw [← e] at hq
          exact zm_135n hB hC ht (by omega) hvw hq hmid
        ·
          refine xg_step rfl rfl (fun k => rfl) ?_
          refine xg_step rfl rfl (fun k => rfl) ?_
          refine zg_gt rfl rfl (fun x y k => rfl) (by first | assumption | exact hA _ _ | exact hB _ _ | exact hC _ _ | exact zrg_max (by assumption) (hA _ _) | (constructor <;> omega)) (by first | assumption | exact hA _ _ | exact hB _ _ | exact hC _ _ | exact zrg_max (by assumption) (hA _ _) | (constructor <;> omega)) (fun hc => ?_) (fun hc => ?_)
          ·
            refine xg_step rfl rfl (fun k => rfl) ?_
            refine xg_step rfl rfl (fun k => rfl) ?_
            show XG _ _ 49 [some (.ref 107), some (zci (t)), some (zci (B (66 + 17 * t) 0)), some (zci (B (66 + 17 * t) 2)), some (zci (2)), some (zci (B (66 + 17 * t) 2))] _ _ _
            refine zg_inc (y := 3) rfl rfl (by decide) rfl ?_
            refine xg_step rfl rfl (fun k => rfl) ?_
            show XG _ _ 7 [some (.ref 107), some (zci (t)), some (zci (B (66 + 17 * t) 0)), some (zci (B (66 + 17 * t) 2)), some (zci (3)), some (zci (B (66 + 17 * t) 2))] _ _ _
            refine xg_step rfl rfl (fun k => rfl) ?_
            refine xg_step rfl rfl (fun k => rfl) ?_
            refine xg_step rfl rfl (fun k => rfl) ?_
            have e : B (66 + 17 * t) 2 = zSG B t := by simp only [zSG]; omega
            rw [← e] at hq
            exact zm_135n hB hC ht (by omega) hvw hq hmid
          ·
            show XG _ _ 49 [some (.ref 107), some (zci (t)), some (zci (B (66 + 17 * t) 0)), some (zci (B (66 + 17 * t) 1)), some (zci (2)), some (zci (B (66 + 17 * t) 2))] _ _ _
            refine zg_inc (y := 3) rfl rfl (by decide) rfl ?_
            refine xg_step rfl rfl (fun k => rfl) ?_
            show XG _ _ 7 [some (.ref 107), some (zci (t)), some (zci (B (66 + 17 * t) 0)), some (zci (B (66 + 17 * t) 1)), some (zci (3)), some (zci (B (66 + 17 * t) 2))] _ _ _
            refine xg_step rfl rfl (fun k => rfl) ?_
            refine xg_step rfl rfl (fun k => rfl) ?_
            refine xg_step rfl rfl (fun k => rfl) ?_
            have e : B (66 + 17 * t) 1 = zSG B t := by simp only [zSG]; omega
            rw [← e] at hq
            exact zm_135n hB hC ht (by omega) hvw hq hmid
      ·
        show XG _ _ 49 [some (.ref 107), some (zci (t)), some (zci (B (66 + 17 * t) 0)), some (zci ((-1))), some (zci (1)), some (zci (B (66 + 17 * t) 1))] _ _ _
        refine zg_inc (y := 2) rfl rfl (by decide) rfl ?_
        refine xg_step rfl rfl (fun k => rfl) ?_
        show XG _ _ 7 [some (.ref 107), some (zci (t)), some (zci (B (66 + 17 * t) 0)), some (zci ((-1))), some (zci (2)), some (zci (B (66 + 17 * t) 1))] _ _ _
        refine xg_step rfl rfl (fun k => rfl) ?_
        refine xg_step rfl rfl (fun k => rfl) ?_
        refine xg_step rfl rfl (fun k => rfl) ?_
        refine xg_step rfl rfl (fun k => rfl) ?_
        refine xg_get rfl rfl (zha (by decide)) zc_RefM rfl rfl ?_
        refine xg_step rfl rfl (fun k => rfl) ?_
        refine xg_step rfl rfl (fun k => rfl) ?_
        refine zg_mul rfl ?_
        refine xg_step rfl rfl (fun k => rfl) ?_
        refine zg_add rfl ?_
        refine zg_ald (.inl ⟨rfl, rfl⟩) (zha (by decide)) zc_r_asked (by decide) ⟨by omega, by omega⟩ (zvB (zk_asked (by omega) (by omega)) (by omega)) ?_
        refine xg_step rfl rfl (fun k => rfl) ?_
        refine xg_step rfl rfl (fun k => rfl) ?_
        refine xg_step rfl rfl (fun k => rfl) ?_
        refine zg_gt rfl rfl (fun x y k => rfl) (by first | assumption | exact hA _ _ | exact hB _ _ | exact hC _ _ | exact zrg_max (by assumption) (hA _ _) | (constructor <;> omega)) (by first | assumption | exact hA _ _ | exact hB _ _ | exact hC _ _ | exact zrg_max (by assumption) (hA _ _) | (constructor <;> omega)) (fun hc => ?_) (fun hc => ?_)
        ·
          refine xg_step rfl rfl (fun k => rfl) ?_
          refine xg_step rfl rfl (fun k => rfl) ?_
          refine xg_step rfl rfl (fun k => rfl) ?_
          refine xg_step rfl rfl (fun k => rfl) ?_
          refine xg_step rfl rfl (fun k => rfl) ?_
          show XG _ _ 49 [some (.ref 107), some (zci (t)), some (zci (B (66 + 17 * t) 2)), some (zci (B (66 + 17 * t) 0)), some (zci (2)), some (zci (B (66 + 17 * t) 2))] _ _ _
          refine zg_inc (y := 3) rfl rfl (by decide) rfl ?_
          refine xg_step rfl rfl (fun k => rfl) ?_
          show XG _ _ 7 [some (.ref 107), some (zci (t)), some (zci (B (66 + 17 * t) 2)), some (zci (B (66 + 17 * t) 0)), some (zci (3)), some (zci (B (66 + 17 * t) 2))] _ _ _
          refine xg_step rfl rfl (fun k => rfl) ?_
          refine xg_step rfl rfl (fun k => rfl) ?_
          refine xg_step rfl rfl (fun k => rfl) ?_
          have e : B (66 + 17 * t) 0 = zSG B t := by simp only [zSG]; omega
          rw [← e] at hq
          exact zm_135n hB hC ht (by omega) hvw hq hmid
        ·
          refine xg_step rfl rfl (fun k => rfl) ?_
          refine xg_step rfl rfl (fun k => rfl) ?_
          refine zg_gt rfl rfl (fun x y k => rfl) (by first | assumption | exact hA _ _ | exact hB _ _ | exact hC _ _ | exact zrg_max (by assumption) (hA _ _) | (constructor <;> omega)) (by first | assumption | exact hA _ _ | exact hB _ _ | exact hC _ _ | exact zrg_max (by assumption) (hA _ _) | (constructor <;> omega)) (fun hc => ?_) (fun hc => ?_)
          ·
            refine xg_step rfl rfl (fun k => rfl) ?_
            refine xg_step rfl rfl (fun k => rfl) ?_
            show XG _ _ 49 [some (.ref 107), some (zci (t)), some (zci (B (66 + 17 * t) 0)), some (zci (B (66 + 17 * t) 2)), some (zci (2)), some (zci (B (66 + 17 * t) 2))] _ _ _
            refine zg_inc (y := 3) rfl rfl (by decide) rfl ?_
            refine xg_step rfl rfl (fun k => rfl) ?_
            show XG _ _ 7 [some (.ref 107), some (zci (t)), some (zci (B (66 + 17 * t) 0)), some (zci (B (66 + 17 * t) 2)), some (zci (3)), some (zci (B (66 + 17 * t) 2))] _ _ _
            refine xg_step rfl rfl (fun k => rfl) ?_
            refine xg_step rfl rfl (fun k => rfl) ?_
            refine xg_step rfl rfl (fun k => rfl) ?_
            have e : B (66 + 17 * t) 2 = zSG B t := by simp only [zSG]; omega
            rw [← e] at hq
            exact zm_135n hB hC ht (by omega) hvw hq hmid
          ·
            show XG _ _ 49 [some (.ref 107), some (zci (t)), some (zci (B (66 + 17 * t) 0)), some (zci ((-1))), some (zci (2)), some (zci (B (66 + 17 * t) 2))] _ _ _
            refine zg_inc (y := 3) rfl rfl (by decide) rfl ?_
            refine xg_step rfl rfl (fun k => rfl) ?_
            show XG _ _ 7 [some (.ref 107), some (zci (t)), some (zci (B (66 + 17 * t) 0)), some (zci ((-1))), some (zci (3)), some (zci (B (66 + 17 * t) 2))] _ _ _
            refine xg_step rfl rfl (fun k => rfl) ?_
            refine xg_step rfl rfl (fun k => rfl) ?_
            refine xg_step rfl rfl (fun k => rfl) ?_
            have e : (-1) = zSG B t := by simp only [zSG]; omega
            rw [← e] at hq
            exact zm_135n hB hC ht (by omega) hvw hq hmid
  ·
    refine xg_step rfl rfl (fun k => rfl) ?_
    refine xg_step rfl rfl (fun k => rfl) ?_
    refine zg_gt rfl rfl (fun x y k => rfl) (by first | assumption | exact hA _ _ | exact hB _ _ | exact hC _ _ | exact zrg_max (by assumption) (hA _ _) | (constructor <;> omega)) (by first | assumption | exact hA _ _ | exact hB _ _ | exact hC _ _ | exact zrg_max (by assumption) (hA _ _) | (constructor <;> omega)) (fun hc => ?_) (fun hc => ?_)
    ·
      refine xg_step rfl rfl (fun k => rfl) ?_
      refine xg_step rfl rfl (fun k => rfl) ?_
      show XG _ _ 49 [some (.ref 107), some (zci (t)), some (zci ((-1))), some (zci (B (66 + 17 * t) 0)), some (zci (0)), some (zci (B (66 + 17 * t) 0))] _ _ _
      refine zg_inc (y := 1) rfl rfl (by decide) rfl ?_
      refine xg_step rfl rfl (fun k => rfl) ?_
      show XG _ _ 7 [some (.ref 107), some (zci (t)), some (zci ((-1))), some (zci (B (66 + 17 * t) 0)), some (zci (1)), some (zci (B (66 + 17 * t) 0))] _ _ _
      refine xg_step rfl rfl (fun k => rfl) ?_
      refine xg_step rfl rfl (fun k => rfl) ?_
      refine xg_step rfl rfl (fun k => rfl) ?_
      refine xg_step rfl rfl (fun k => rfl) ?_
      refine xg_get rfl rfl (zha (by decide)) zc_RefM rfl rfl ?_
      refine xg_step rfl rfl (fun k => rfl) ?_
      refine xg_step rfl rfl (fun k => rfl) ?_
      refine zg_mul rfl ?_
      refine xg_step rfl rfl (fun k => rfl) ?_
      refine zg_add rfl ?_
      refine zg_ald (.inl ⟨rfl, rfl⟩) (zha (by decide)) zc_r_asked (by decide) ⟨by omega, by omega⟩ (zvB (zk_asked (by omega) (by omega)) (by omega)) ?_
      refine xg_step rfl rfl (fun k => rfl) ?_
      refine xg_step rfl rfl (fun k => rfl) ?_
      refine xg_step rfl rfl (fun k => rfl) ?_
      refine zg_gt rfl rfl (fun x y k => rfl) (by first | assumption | exact hA _ _ | exact hB _ _ | exact hC _ _ | exact zrg_max (by assumption) (hA _ _) | (constructor <;> omega)) (by first | assumption | exact hA _ _ | exact hB _ _ | exact hC _ _ | exact zrg_max (by assumption) (hA _ _) | (constructor <;> omega)) (fun hc => ?_) (fun hc => ?_)
      ·
        refine xg_step rfl rfl (fun k => rfl) ?_
        refine xg_step rfl rfl (fun k => rfl) ?_
        refine xg_step rfl rfl (fun k => rfl) ?_
        refine xg_step rfl rfl (fun k => rfl) ?_
        refine xg_step rfl rfl (fun k => rfl) ?_
        show XG _ _ 49 [some (.ref 107), some (zci (t)), some (zci (B (66 + 17 * t) 1)), some (zci ((-1))), some (zci (1)), some (zci (B (66 + 17 * t) 1))] _ _ _
        refine zg_inc (y := 2) rfl rfl (by decide) rfl ?_
        refine xg_step rfl rfl (fun k => rfl) ?_
        show XG _ _ 7 [some (.ref 107), some (zci (t)), some (zci (B (66 + 17 * t) 1)), some (zci ((-1))), some (zci (2)), some (zci (B (66 + 17 * t) 1))] _ _ _
        refine xg_step rfl rfl (fun k => rfl) ?_
        refine xg_step rfl rfl (fun k => rfl) ?_
        refine xg_step rfl rfl (fun k => rfl) ?_
        refine xg_step rfl rfl (fun k => rfl) ?_
        refine xg_get rfl rfl (zha (by decide)) zc_RefM rfl rfl ?_
        refine xg_step rfl rfl (fun k => rfl) ?_
        refine xg_step rfl rfl (fun k => rfl) ?_
        refine zg_mul rfl ?_
        refine xg_step rfl rfl (fun k => rfl) ?_
        refine zg_add rfl ?_
        refine zg_ald (.inl ⟨rfl, rfl⟩) (zha (by decide)) zc_r_asked (by decide) ⟨by omega, by omega⟩ (zvB (zk_asked (by omega) (by omega)) (by omega)) ?_
        refine xg_step rfl rfl (fun k => rfl) ?_
        refine xg_step rfl rfl (fun k => rfl) ?_
        refine xg_step rfl rfl (fun k => rfl) ?_
        refine zg_gt rfl rfl (fun x y k => rfl) (by first | assumption | exact hA _ _ | exact hB _ _ | exact hC _ _ | exact zrg_max (by assumption) (hA _ _) | (constructor <;> omega)) (by first | assumption | exact hA _ _ | exact hB _ _ | exact hC _ _ | exact zrg_max (by assumption) (hA _ _) | (constructor <;> omega)) (fun hc => ?_) (fun hc => ?_)
        ·
          refine xg_step rfl rfl (fun k => rfl) ?_
          refine xg_step rfl rfl (fun k => rfl) ?_
          refine xg_step rfl rfl (fun k => rfl) ?_
          refine xg_step rfl rfl (fun k => rfl) ?_
          refine xg_step rfl rfl (fun k => rfl) ?_
          show XG _ _ 49 [some (.ref 107), some (zci (t)), some (zci (B (66 + 17 * t) 2)), some (zci (B (66 + 17 * t) 1)), some (zci (2)), some (zci (B (66 + 17 * t) 2))] _ _ _
          refine zg_inc (y := 3) rfl rfl (by decide) rfl ?_
          refine xg_step rfl rfl (fun k => rfl) ?_
          show XG _ _ 7 [some (.ref 107), some (zci (t)), some (zci (B (66 + 17 * t) 2)), some (zci (B (66 + 17 * t) 1)), some (zci (3)), some (zci (B (66 + 17 * t) 2))] _ _ _
          refine xg_step rfl rfl (fun k => rfl) ?_
          refine xg_step rfl rfl (fun k => rfl) ?_
          refine xg_step rfl rfl (fun k => rfl) ?_
          have e : B (66 + 17 * t) 1 = zSG B t := by simp only [zSG]; omega
          rw [← e] at hq
          exact zm_135n hB hC ht (by omega) hvw hq hmid
        ·
          refine xg_step rfl rfl (fun k => rfl) ?_
          refine xg_step rfl rfl (fun k => rfl) ?_
          refine zg_gt rfl rfl (fun x y k => rfl) (by first | assumption | exact hA _ _ | exact hB _ _ | exact hC _ _ | exact zrg_max (by assumption) (hA _ _) | (constructor <;> omega)) (by first | assumption | exact hA _ _ | exact hB _ _ | exact hC _ _ | exact zrg_max (by assumption) (hA _ _) | (constructor <;> omega)) (fun hc => ?_) (fun hc => ?_)
          ·
            refine xg_step rfl rfl (fun k => rfl) ?_
            refine xg_step rfl rfl (fun k => rfl) ?_
            show XG _ _ 49 [some (.ref 107), some (zci (t)), some (zci (B (66 + 17 * t) 1)), some (zci (B (66 + 17 * t) 2)), some (zci (2)), some (zci (B (66 + 17 * t) 2))] _ _ _
            refine zg_inc (y := 3) rfl rfl (by decide) rfl ?_
            refine xg_step rfl rfl (fun k => rfl) ?_
            show XG _ _ 7 [some (.ref 107), some (zci (t)), some (zci (B (66 + 17 * t) 1)), some (zci (B (66 + 17 * t) 2)), some (zci (3)), some (zci (B (66 + 17 * t) 2))] _ _ _
            refine xg_step rfl rfl (fun k => rfl) ?_
            refine xg_step rfl rfl (fun k => rfl) ?_
            refine xg_step rfl rfl (fun k => rfl) ?_
            have e : B (66 + 17 * t) 2 = zSG B t := by simp only [zSG]; omega
            rw [← e] at hq
            exact zm_135n hB hC ht (by omega) hvw hq hmid
          ·
            show XG _ _ 49 [some (.ref 107), some (zci (t)), some (zci (B (66 + 17 * t) 1)), some (zci ((-1))), some (zci (2)), some (zci (B (66 + 17 * t) 2))] _ _ _
            refine zg_inc (y := 3) rfl rfl (by decide) rfl ?_
            refine xg_step rfl rfl (fun k => rfl) ?_
            show XG _ _ 7 [some (.ref 107), some (zci (t)), some (zci (B (66 + 17 * t) 1)), some (zci ((-1))), some (zci (3)), some (zci (B (66 + 17 * t) 2))] _ _ _
            refine xg_step rfl rfl (fun k => rfl) ?_
            refine xg_step rfl rfl (fun k => rfl) ?_
            refine xg_step rfl rfl (fun k => rfl) ?_
            have e : (-1) = zSG B t := by simp only [zSG]; omega
            rw [← e] at hq
            exact zm_135n hB hC ht (by omega) hvw hq hmid
      ·
        refine xg_step rfl rfl (fun k => rfl) ?_
        refine xg_step rfl rfl (fun k => rfl) ?_
        refine zg_gt rfl rfl (fun x y k => rfl) (by first | assumption | exact hA _ _ | exact hB _ _ | exact hC _ _ | exact zrg_max (by assumption) (hA _ _) | (constructor <;> omega)) (by first | assumption | exact hA _ _ | exact hB _ _ | exact hC _ _ | exact zrg_max (by assumption) (hA _ _) | (constructor <;> omega)) (fun hc => ?_) (fun hc => ?_)
        ·
          refine xg_step rfl rfl (fun k => rfl) ?_
          refine xg_step rfl rfl (fun k => rfl) ?_
          show XG _ _ 49 [some (.ref 107), some (zci (t)), some (zci ((-1))), some (zci (B (66 + 17 * t) 1)), some (zci (1)), some (zci (B (66 + 17 * t) 1))] _ _ _
          refine zg_inc (y := 2) rfl rfl (by decide) rfl ?_
          refine xg_step rfl rfl (fun k => rfl) ?_
          show XG _ _ 7 [some (.ref 107), some (zci (t)), some (zci ((-1))), some (zci (B (66 + 17 * t) 1)), some (zci (2)), some (zci (B (66 + 17 * t) 1))] _ _ _
          refine xg_step rfl rfl (fun k => rfl) ?_
          refine xg_step rfl rfl (fun k => rfl) ?_
          refine xg_step rfl rfl (fun k => rfl) ?_
          refine xg_step rfl rfl (fun k => rfl) ?_
          refine xg_get rfl rfl (zha (by decide)) zc_RefM rfl rfl ?_
          refine xg_step rfl rfl (fun k => rfl) ?_
          refine xg_step rfl rfl (fun k => rfl) ?_
          refine zg_mul rfl ?_
          refine xg_step rfl rfl (fun k => rfl) ?_
          refine zg_add rfl ?_
          refine zg_ald (.inl ⟨rfl, rfl⟩) (zha (by decide)) zc_r_asked (by decide) ⟨by omega, by omega⟩ (zvB (zk_asked (by omega) (by omega)) (by omega)) ?_
          refine xg_step rfl rfl (fun k => rfl) ?_
          refine xg_step rfl rfl (fun k => rfl) ?_
          refine xg_step rfl rfl (fun k => rfl) ?_
          refine zg_gt rfl rfl (fun x y k => rfl) (by first | assumption | exact hA _ _ | exact hB _ _ | exact hC _ _ | exact zrg_max (by assumption) (hA _ _) | (constructor <;> omega)) (by first | assumption | exact hA _ _ | exact hB _ _ | exact hC _ _ | exact zrg_max (by assumption) (hA _ _) | (constructor <;> omega)) (fun hc => ?_) (fun hc => ?_)
          ·
            refine xg_step rfl rfl (fun k => rfl) ?_
            refine xg_step rfl rfl (fun k => rfl) ?_
            refine xg_step rfl rfl (fun k => rfl) ?_
            refine xg_step rfl rfl (fun k => rfl) ?_
            refine xg_step rfl rfl (fun k => rfl) ?_
            show XG _ _ 49 [some (.ref 107), some (zci (t)), some (zci (B (66 + 17 * t) 2)), some (zci ((-1))), some (zci (2)), some (zci (B (66 + 17 * t) 2))] _ _ _
            refine zg_inc (y := 3) rfl rfl (by decide) rfl ?_
            refine xg_step rfl rfl (fun k => rfl) ?_
            show XG _ _ 7 [some (.ref 107), some (zci (t)), some (zci (B (66 + 17 * t) 2)), some (zci ((-1))), some (zci (3)), some (zci (B (66 + 17 * t) 2))] _ _ _
            refine xg_step rfl rfl (fun k => rfl) ?_
            refine xg_step rfl rfl (fun k => rfl) ?_
            refine xg_step rfl rfl (fun k => rfl) ?_
            have e : (-1) = zSG B t := by simp only [zSG]; omega
            rw [← e] at hq
            exact zm_135n hB hC ht (by omega) hvw hq hmid
          ·
            refine xg_step rfl rfl (fun k => rfl) ?_
            refine xg_step rfl rfl (fun k => rfl) ?_
            refine zg_gt rfl rfl (fun x y k => rfl) (by first | assumption | exact hA _ _ | exact hB _ _ | exact hC _ _ | exact zrg_max (by assumption) (hA _ _) | (constructor <;> omega)) (by first | assumption | exact hA _ _ | exact hB _ _ | exact hC _ _ | exact zrg_max (by assumption) (hA _ _) | (constructor <;> omega)) (fun hc => ?_) (fun hc => ?_)
            ·
              refine xg_step rfl rfl (fun k => rfl) ?_
              refine xg_step rfl rfl (fun k => rfl) ?_
              show XG _ _ 49 [some (.ref 107), some (zci (t)), some (zci ((-1))), some (zci (B (66 + 17 * t) 2)), some (zci (2)), some (zci (B (66 + 17 * t) 2))] _ _ _
              refine zg_inc (y := 3) rfl rfl (by decide) rfl ?_
              refine xg_step rfl rfl (fun k => rfl) ?_
              show XG _ _ 7 [some (.ref 107), some (zci (t)), some (zci ((-1))), some (zci (B (66 + 17 * t) 2)), some (zci (3)), some (zci (B (66 + 17 * t) 2))] _ _ _
              refine xg_step rfl rfl (fun k => rfl) ?_
              refine xg_step rfl rfl (fun k => rfl) ?_
              refine xg_step rfl rfl (fun k => rfl) ?_
              have e : B (66 + 17 * t) 2 = zSG B t := by simp only [zSG]; omega
              rw [← e] at hq
              exact zm_135n hB hC ht (by omega) hvw hq hmid
            ·
              show XG _ _ 49 [some (.ref 107), some (zci (t)), some (zci ((-1))), some (zci (B (66 + 17 * t) 1)), some (zci (2)), some (zci (B (66 + 17 * t) 2))] _ _ _
              refine zg_inc (y := 3) rfl rfl (by decide) rfl ?_
              refine xg_step rfl rfl (fun k => rfl) ?_
              show XG _ _ 7 [some (.ref 107), some (zci (t)), some (zci ((-1))), some (zci (B (66 + 17 * t) 1)), some (zci (3)), some (zci (B (66 + 17 * t) 2))] _ _ _
              refine xg_step rfl rfl (fun k => rfl) ?_
              refine xg_step rfl rfl (fun k => rfl) ?_
              refine xg_step rfl rfl (fun k => rfl) ?_
              have e : B (66 + 17 * t) 1 = zSG B t := by simp only [zSG]; omega
              rw [← e] at hq
              exact zm_135n hB hC ht (by omega) hvw hq hmid
        ·
          show XG _ _ 49 [some (.ref 107), some (zci (t)), some (zci ((-1))), some (zci (B (66 + 17 * t) 0)), some (zci (1)), some (zci (B (66 + 17 * t) 1))] _ _ _
          refine zg_inc (y := 2) rfl rfl (by decide) rfl ?_
          refine xg_step rfl rfl (fun k => rfl) ?_
          show XG _ _ 7 [some (.ref 107), some (zci (t)), some (zci ((-1))), some (zci (B (66 + 17 * t) 0)), some (zci (2)), some (zci (B (66 + 17 * t) 1))] _ _ _
          refine xg_step rfl rfl (fun k => rfl) ?_
          refine xg_step rfl rfl (fun k => rfl) ?_
          refine xg_step rfl rfl (fun k => rfl) ?_
          refine xg_step rfl rfl (fun k => rfl) ?_
          refine xg_get rfl rfl (zha (by decide)) zc_RefM rfl rfl ?_
          refine xg_step rfl rfl (fun k => rfl) ?_
          refine xg_step rfl rfl (fun k => rfl) ?_
          refine zg_mul rfl ?_
          refine xg_step rfl rfl (fun k => rfl) ?_
          refine zg_add rfl ?_
          refine zg_ald (.inl ⟨rfl, rfl⟩) (zha (by decide)) zc_r_asked (by decide) ⟨by omega, by omega⟩ (zvB (zk_asked (by omega) (by omega)) (by omega)) ?_
          refine xg_step rfl rfl (fun k => rfl) ?_
          refine xg_step rfl rfl (fun k => rfl) ?_
          refine xg_step rfl rfl (fun k => rfl) ?_
          refine zg_gt rfl rfl (fun x y k => rfl) (by first | assumption | exact hA _ _ | exact hB _ _ | exact hC _ _ | exact zrg_max (by assumption) (hA _ _) | (constructor <;> omega)) (by first | assumption | exact hA _ _ | exact hB _ _ | exact hC _ _ | exact zrg_max (by assumption) (hA _ _) | (constructor <;> omega)) (fun hc => ?_) (fun hc => ?_)
          ·
            refine xg_step rfl rfl (fun k => rfl) ?_
            refine xg_step rfl rfl (fun k => rfl) ?_
            refine xg_step rfl rfl (fun k => rfl) ?_
            refine xg_step rfl rfl (fun k => rfl) ?_
            refine xg_step rfl rfl (fun k => rfl) ?_
            show XG _ _ 49 [some (.ref 107), some (zci (t)), some (zci (B (66 + 17 * t) 2)), some (zci ((-1))), some (zci (2)), some (zci (B (66 + 17 * t) 2))] _ _ _
            refine zg_inc (y := 3) rfl rfl (by decide) rfl ?_
            refine xg_step rfl rfl (fun k => rfl) ?_
            show XG _ _ 7 [some (.ref 107), some (zci (t)), some (zci (B (66 + 17 * t) 2)), some (zci ((-1))), some (zci (3)), some (zci (B (66 + 17 * t) 2))] _ _ _
            refine xg_step rfl rfl (fun k => rfl) ?_
            refine xg_step rfl rfl (fun k => rfl) ?_
            refine xg_step rfl rfl (fun k => rfl) ?_
            have e : (-1) = zSG B t := by simp only [zSG]; omega
            rw [← e] at hq
            exact zm_135n hB hC ht (by omega) hvw hq hmid
          ·
            refine xg_step rfl rfl (fun k => rfl) ?_
            refine xg_step rfl rfl (fun k => rfl) ?_
            refine zg_gt rfl rfl (fun x y k => rfl) (by first | assumption | exact hA _ _ | exact hB _ _ | exact hC _ _ | exact zrg_max (by assumption) (hA _ _) | (constructor <;> omega)) (by first | assumption | exact hA _ _ | exact hB _ _ | exact hC _ _ | exact zrg_max (by assumption) (hA _ _) | (constructor <;> omega)) (fun hc => ?_) (fun hc => ?_)
            ·
              refine xg_step rfl rfl (fun k => rfl) ?_
              refine xg_step rfl rfl (fun k => rfl) ?_
              show XG _ _ 49 [some (.ref 107), some (zci (t)), some (zci ((-1))), some (zci (B (66 + 17 * t) 2)), some (zci (2)), some (zci (B (66 + 17 * t) 2))] _ _ _
              refine zg_inc (y := 3) rfl rfl (by decide) rfl ?_
              refine xg_step rfl rfl (fun k => rfl) ?_
              show XG _ _ 7 [some (.ref 107), some (zci (t)), some (zci ((-1))), some (zci (B (66 + 17 * t) 2)), some (zci (3)), some (zci (B (66 + 17 * t) 2))] _ _ _
              refine xg_step rfl rfl (fun k => rfl) ?_
              refine xg_step rfl rfl (fun k => rfl) ?_
              refine xg_step rfl rfl (fun k => rfl) ?_
              have e : B (66 + 17 * t) 2 = zSG B t := by simp only [zSG]; omega
              rw [← e] at hq
              exact zm_135n hB hC ht (by omega) hvw hq hmid
            ·
              show XG _ _ 49 [some (.ref 107), some (zci (t)), some (zci ((-1))), some (zci (B (66 + 17 * t) 0)), some (zci (2)), some (zci (B (66 + 17 * t) 2))] _ _ _
              refine zg_inc (y := 3) rfl rfl (by decide) rfl ?_
              refine xg_step rfl rfl (fun k => rfl) ?_
              show XG _ _ 7 [some (.ref 107), some (zci (t)), some (zci ((-1))), some (zci (B (66 + 17 * t) 0)), some (zci (3)), some (zci (B (66 + 17 * t) 2))] _ _ _
              refine xg_step rfl rfl (fun k => rfl) ?_
              refine xg_step rfl rfl (fun k => rfl) ?_
              refine xg_step rfl rfl (fun k => rfl) ?_
              have e : B (66 + 17 * t) 0 = zSG B t := by simp only [zSG]; omega
              rw [← e] at hq
              exact zm_135n hB hC ht (by omega) hvw hq hmid
    ·
      show XG _ _ 49 [some (.ref 107), some (zci (t)), some (zci ((-1))), some (zci ((-1))), some (zci (0)), some (zci (B (66 + 17 * t) 0))] _ _ _
      refine zg_inc (y := 1) rfl rfl (by decide) rfl ?_
      refine xg_step rfl rfl (fun k => rfl) ?_
      show XG _ _ 7 [some (.ref 107), some (zci (t)), some (zci ((-1))), some (zci ((-1))), some (zci (1)), some (zci (B (66 + 17 * t) 0))] _ _ _
      refine xg_step rfl rfl (fun k => rfl) ?_
      refine xg_step rfl rfl (fun k => rfl) ?_
      refine xg_step rfl rfl (fun k => rfl) ?_
      refine xg_step rfl rfl (fun k => rfl) ?_
      refine xg_get rfl rfl (zha (by decide)) zc_RefM rfl rfl ?_
      refine xg_step rfl rfl (fun k => rfl) ?_
      refine xg_step rfl rfl (fun k => rfl) ?_
      refine zg_mul rfl ?_
      refine xg_step rfl rfl (fun k => rfl) ?_
      refine zg_add rfl ?_
      refine zg_ald (.inl ⟨rfl, rfl⟩) (zha (by decide)) zc_r_asked (by decide) ⟨by omega, by omega⟩ (zvB (zk_asked (by omega) (by omega)) (by omega)) ?_
      refine xg_step rfl rfl (fun k => rfl) ?_
      refine xg_step rfl rfl (fun k => rfl) ?_
      refine xg_step rfl rfl (fun k => rfl) ?_
      refine zg_gt rfl rfl (fun x y k => rfl) (by first | assumption | exact hA _ _ | exact hB _ _ | exact hC _ _ | exact zrg_max (by assumption) (hA _ _) | (constructor <;> omega)) (by first | assumption | exact hA _ _ | exact hB _ _ | exact hC _ _ | exact zrg_max (by assumption) (hA _ _) | (constructor <;> omega)) (fun hc => ?_) (fun hc => ?_)
      ·
        refine xg_step rfl rfl (fun k => rfl) ?_
        refine xg_step rfl rfl (fun k => rfl) ?_
        refine xg_step rfl rfl (fun k => rfl) ?_
        refine xg_step rfl rfl (fun k => rfl) ?_
        refine xg_step rfl rfl (fun k => rfl) ?_
        show XG _ _ 49 [some (.ref 107), some (zci (t)), some (zci (B (66 + 17 * t) 1)), some (zci ((-1))), some (zci (1)), some (zci (B (66 + 17 * t) 1))] _ _ _
        refine zg_inc (y := 2) rfl rfl (by decide) rfl ?_
        refine xg_step rfl rfl (fun k => rfl) ?_
        show XG _ _ 7 [some (.ref 107), some (zci (t)), some (zci (B (66 + 17 * t) 1)), some (zci ((-1))), some (zci (2)), some (zci (B (66 + 17 * t) 1))] _ _ _
        refine xg_step rfl rfl (fun k => rfl) ?_
        refine xg_step rfl rfl (fun k => rfl) ?_
        refine xg_step rfl rfl (fun k => rfl) ?_
        refine xg_step rfl rfl (fun k => rfl) ?_
        refine xg_get rfl rfl (zha (by decide)) zc_RefM rfl rfl ?_
        refine xg_step rfl rfl (fun k => rfl) ?_
        refine xg_step rfl rfl (fun k => rfl) ?_
        refine zg_mul rfl ?_
        refine xg_step rfl rfl (fun k => rfl) ?_
        refine zg_add rfl ?_
        refine zg_ald (.inl ⟨rfl, rfl⟩) (zha (by decide)) zc_r_asked (by decide) ⟨by omega, by omega⟩ (zvB (zk_asked (by omega) (by omega)) (by omega)) ?_
        refine xg_step rfl rfl (fun k => rfl) ?_
        refine xg_step rfl rfl (fun k => rfl) ?_
        refine xg_step rfl rfl (fun k => rfl) ?_
        refine zg_gt rfl rfl (fun x y k => rfl) (by first | assumption | exact hA _ _ | exact hB _ _ | exact hC _ _ | exact zrg_max (by assumption) (hA _ _) | (constructor <;> omega)) (by first | assumption | exact hA _ _ | exact hB _ _ | exact hC _ _ | exact zrg_max (by assumption) (hA _ _) | (constructor <;> omega)) (fun hc => ?_) (fun hc => ?_)
        ·
          refine xg_step rfl rfl (fun k => rfl) ?_
          refine xg_step rfl rfl (fun k => rfl) ?_
          refine xg_step rfl rfl (fun k => rfl) ?_
          refine xg_step rfl rfl (fun k => rfl) ?_
          refine xg_step rfl rfl (fun k => rfl) ?_
          show XG _ _ 49 [some (.ref 107), some (zci (t)), some (zci (B (66 + 17 * t) 2)), some (zci (B (66 + 17 * t) 1)), some (zci (2)), some (zci (B (66 + 17 * t) 2))] _ _ _
          refine zg_inc (y := 3) rfl rfl (by decide) rfl ?_
          refine xg_step rfl rfl (fun k => rfl) ?_
          show XG _ _ 7 [some (.ref 107), some (zci (t)), some (zci (B (66 + 17 * t) 2)), some (zci (B (66 + 17 * t) 1)), some (zci (3)), some (zci (B (66 + 17 * t) 2))] _ _ _
          refine xg_step rfl rfl (fun k => rfl) ?_
          refine xg_step rfl rfl (fun k => rfl) ?_
          refine xg_step rfl rfl (fun k => rfl) ?_
          have e : B (66 + 17 * t) 1 = zSG B t := by simp only [zSG]; omega
          rw [← e] at hq
          exact zm_135n hB hC ht (by omega) hvw hq hmid
        ·
          refine xg_step rfl rfl (fun k => rfl) ?_
          refine xg_step rfl rfl (fun k => rfl) ?_
          refine zg_gt rfl rfl (fun x y k => rfl) (by first | assumption | exact hA _ _ | exact hB _ _ | exact hC _ _ | exact zrg_max (by assumption) (hA _ _) | (constructor <;> omega)) (by first | assumption | exact hA _ _ | exact hB _ _ | exact hC _ _ | exact zrg_max (by assumption) (hA _ _) | (constructor <;> omega)) (fun hc => ?_) (fun hc => ?_)
          ·
            refine xg_step rfl rfl (fun k => rfl) ?_
            refine xg_step rfl rfl (fun k => rfl) ?_
            show XG _ _ 49 [some (.ref 107), some (zci (t)), some (zci (B (66 + 17 * t) 1)), some (zci (B (66 + 17 * t) 2)), some (zci (2)), some (zci (B (66 + 17 * t) 2))] _ _ _
            refine zg_inc (y := 3) rfl rfl (by decide) rfl ?_
            refine xg_step rfl rfl (fun k => rfl) ?_
            show XG _ _ 7 [some (.ref 107), some (zci (t)), some (zci (B (66 + 17 * t) 1)), some (zci (B (66 + 17 * t) 2)), some (zci (3)), some (zci (B (66 + 17 * t) 2))] _ _ _
            refine xg_step rfl rfl (fun k => rfl) ?_
            refine xg_step rfl rfl (fun k => rfl) ?_
            refine xg_step rfl rfl (fun k => rfl) ?_
            have e : B (66 + 17 * t) 2 = zSG B t := by simp only [zSG]; omega
            rw [← e] at hq
            exact zm_135n hB hC ht (by omega) hvw hq hmid
          ·
            show XG _ _ 49 [some (.ref 107), some (zci (t)), some (zci (B (66 + 17 * t) 1)), some (zci ((-1))), some (zci (2)), some (zci (B (66 + 17 * t) 2))] _ _ _
            refine zg_inc (y := 3) rfl rfl (by decide) rfl ?_
            refine xg_step rfl rfl (fun k => rfl) ?_
            show XG _ _ 7 [some (.ref 107), some (zci (t)), some (zci (B (66 + 17 * t) 1)), some (zci ((-1))), some (zci (3)), some (zci (B (66 + 17 * t) 2))] _ _ _
            refine xg_step rfl rfl (fun k => rfl) ?_
            refine xg_step rfl rfl (fun k => rfl) ?_
            refine xg_step rfl rfl (fun k => rfl) ?_
            have e : (-1) = zSG B t := by simp only [zSG]; omega
            rw [← e] at hq
            exact zm_135n hB hC ht (by omega) hvw hq hmid
      ·
        refine xg_step rfl rfl (fun k => rfl) ?_
        refine xg_step rfl rfl (fun k => rfl) ?_
        refine zg_gt rfl rfl (fun x y k => rfl) (by first | assumption | exact hA _ _ | exact hB _ _ | exact hC _ _ | exact zrg_max (by assumption) (hA _ _) | (constructor <;> omega)) (by first | assumption | exact hA _ _ | exact hB _ _ | exact hC _ _ | exact zrg_max (by assumption) (hA _ _) | (constructor <;> omega)) (fun hc => ?_) (fun hc => ?_)
        ·
          refine xg_step rfl rfl (fun k => rfl) ?_
          refine xg_step rfl rfl (fun k => rfl) ?_
          show XG _ _ 49 [some (.ref 107), some (zci (t)), some (zci ((-1))), some (zci (B (66 + 17 * t) 1)), some (zci (1)), some (zci (B (66 + 17 * t) 1))] _ _ _
          refine zg_inc (y := 2) rfl rfl (by decide) rfl ?_
          refine xg_step rfl rfl (fun k => rfl) ?_
          show XG _ _ 7 [some (.ref 107), some (zci (t)), some (zci ((-1))), some (zci (B (66 + 17 * t) 1)), some (zci (2)), some (zci (B (66 + 17 * t) 1))] _ _ _
          refine xg_step rfl rfl (fun k => rfl) ?_
          refine xg_step rfl rfl (fun k => rfl) ?_
          refine xg_step rfl rfl (fun k => rfl) ?_
          refine xg_step rfl rfl (fun k => rfl) ?_
          refine xg_get rfl rfl (zha (by decide)) zc_RefM rfl rfl ?_
          refine xg_step rfl rfl (fun k => rfl) ?_
          refine xg_step rfl rfl (fun k => rfl) ?_
          refine zg_mul rfl ?_
          refine xg_step rfl rfl (fun k => rfl) ?_
          refine zg_add rfl ?_
          refine zg_ald (.inl ⟨rfl, rfl⟩) (zha (by decide)) zc_r_asked (by decide) ⟨by omega, by omega⟩ (zvB (zk_asked (by omega) (by omega)) (by omega)) ?_
          refine xg_step rfl rfl (fun k => rfl) ?_
          refine xg_step rfl rfl (fun k => rfl) ?_
          refine xg_step rfl rfl (fun k => rfl) ?_
          refine zg_gt rfl rfl (fun x y k => rfl) (by first | assumption | exact hA _ _ | exact hB _ _ | exact hC _ _ | exact zrg_max (by assumption) (hA _ _) | (constructor <;> omega)) (by first | assumption | exact hA _ _ | exact hB _ _ | exact hC _ _ | exact zrg_max (by assumption) (hA _ _) | (constructor <;> omega)) (fun hc => ?_) (fun hc => ?_)
          ·
            refine xg_step rfl rfl (fun k => rfl) ?_
            refine xg_step rfl rfl (fun k => rfl) ?_
            refine xg_step rfl rfl (fun k => rfl) ?_
            refine xg_step rfl rfl (fun k => rfl) ?_
            refine xg_step rfl rfl (fun k => rfl) ?_
            show XG _ _ 49 [some (.ref 107), some (zci (t)), some (zci (B (66 + 17 * t) 2)), some (zci ((-1))), some (zci (2)), some (zci (B (66 + 17 * t) 2))] _ _ _
            refine zg_inc (y := 3) rfl rfl (by decide) rfl ?_
            refine xg_step rfl rfl (fun k => rfl) ?_
            show XG _ _ 7 [some (.ref 107), some (zci (t)), some (zci (B (66 + 17 * t) 2)), some (zci ((-1))), some (zci (3)), some (zci (B (66 + 17 * t) 2))] _ _ _
            refine xg_step rfl rfl (fun k => rfl) ?_
            refine xg_step rfl rfl (fun k => rfl) ?_
            refine xg_step rfl rfl (fun k => rfl) ?_
            have e : (-1) = zSG B t := by simp only [zSG]; omega
            rw [← e] at hq
            exact zm_135n hB hC ht (by omega) hvw hq hmid
          ·
            refine xg_step rfl rfl (fun k => rfl) ?_
            refine xg_step rfl rfl (fun k => rfl) ?_
            refine zg_gt rfl rfl (fun x y k => rfl) (by first | assumption | exact hA _ _ | exact hB _ _ | exact hC _ _ | exact zrg_max (by assumption) (hA _ _) | (constructor <;> omega)) (by first | assumption | exact hA _ _ | exact hB _ _ | exact hC _ _ | exact zrg_max (by assumption) (hA _ _) | (constructor <;> omega)) (fun hc => ?_) (fun hc => ?_)
            ·
              refine xg_step rfl rfl (fun k => rfl) ?_
              refine xg_step rfl rfl (fun k => rfl) ?_
              show XG _ _ 49 [some (.ref 107), some (zci (t)), some (zci ((-1))), some (zci (B (66 + 17 * t) 2)), some (zci (2)), some (zci (B (66 + 17 * t) 2))] _ _ _
              refine zg_inc (y := 3) rfl rfl (by decide) rfl ?_
              refine xg_step rfl rfl (fun k => rfl) ?_
              show XG _ _ 7 [some (.ref 107), some (zci (t)), some (zci ((-1))), some (zci (B (66 + 17 * t) 2)), some (zci (3)), some (zci (B (66 + 17 * t) 2))] _ _ _
              refine xg_step rfl rfl (fun k => rfl) ?_
              refine xg_step rfl rfl (fun k => rfl) ?_
              refine xg_step rfl rfl (fun k => rfl) ?_
              have e : B (66 + 17 * t) 2 = zSG B t := by simp only [zSG]; omega
              rw [← e] at hq
              exact zm_135n hB hC ht (by omega) hvw hq hmid
            ·
              show XG _ _ 49 [some (.ref 107), some (zci (t)), some (zci ((-1))), some (zci (B (66 + 17 * t) 1)), some (zci (2)), some (zci (B (66 + 17 * t) 2))] _ _ _
              refine zg_inc (y := 3) rfl rfl (by decide) rfl ?_
              refine xg_step rfl rfl (fun k => rfl) ?_
              show XG _ _ 7 [some (.ref 107), some (zci (t)), some (zci ((-1))), some (zci (B (66 + 17 * t) 1)), some (zci (3)), some (zci (B (66 + 17 * t) 2))] _ _ _
              refine xg_step rfl rfl (fun k => rfl) ?_
              refine xg_step rfl rfl (fun k => rfl) ?_
              refine xg_step rfl rfl (fun k => rfl) ?_
              have e : B (66 + 17 * t) 1 = zSG B t := by simp only [zSG]; omega
              rw [← e] at hq
              exact zm_135n hB hC ht (by omega) hvw hq hmid
        ·
          show XG _ _ 49 [some (.ref 107), some (zci (t)), some (zci ((-1))), some (zci ((-1))), some (zci (1)), some (zci (B (66 + 17 * t) 1))] _ _ _
          refine zg_inc (y := 2) rfl rfl (by decide) rfl ?_
          refine xg_step rfl rfl (fun k => rfl) ?_
          show XG _ _ 7 [some (.ref 107), some (zci (t)), some (zci ((-1))), some (zci ((-1))), some (zci (2)), some (zci (B (66 + 17 * t) 1))] _ _ _
          refine xg_step rfl rfl (fun k => rfl) ?_
          refine xg_step rfl rfl (fun k => rfl) ?_
          refine xg_step rfl rfl (fun k => rfl) ?_
          refine xg_step rfl rfl (fun k => rfl) ?_
          refine xg_get rfl rfl (zha (by decide)) zc_RefM rfl rfl ?_
          refine xg_step rfl rfl (fun k => rfl) ?_
          refine xg_step rfl rfl (fun k => rfl) ?_
          refine zg_mul rfl ?_
          refine xg_step rfl rfl (fun k => rfl) ?_
          refine zg_add rfl ?_
          refine zg_ald (.inl ⟨rfl, rfl⟩) (zha (by decide)) zc_r_asked (by decide) ⟨by omega, by omega⟩ (zvB (zk_asked (by omega) (by omega)) (by omega)) ?_
          refine xg_step rfl rfl (fun k => rfl) ?_
          refine xg_step rfl rfl (fun k => rfl) ?_
          refine xg_step rfl rfl (fun k => rfl) ?_
          refine zg_gt rfl rfl (fun x y k => rfl) (by first | assumption | exact hA _ _ | exact hB _ _ | exact hC _ _ | exact zrg_max (by assumption) (hA _ _) | (constructor <;> omega)) (by first | assumption | exact hA _ _ | exact hB _ _ | exact hC _ _ | exact zrg_max (by assumption) (hA _ _) | (constructor <;> omega)) (fun hc => ?_) (fun hc => ?_)
          ·
            refine xg_step rfl rfl (fun k => rfl) ?_
            refine xg_step rfl rfl (fun k => rfl) ?_
            refine xg_step rfl rfl (fun k => rfl) ?_
            refine xg_step rfl rfl (fun k => rfl) ?_
            refine xg_step rfl rfl (fun k => rfl) ?_
            show XG _ _ 49 [some (.ref 107), some (zci (t)), some (zci (B (66 + 17 * t) 2)), some (zci ((-1))), some (zci (2)), some (zci (B (66 + 17 * t) 2))] _ _ _
            refine zg_inc (y := 3) rfl rfl (by decide) rfl ?_
            refine xg_step rfl rfl (fun k => rfl) ?_
            show XG _ _ 7 [some (.ref 107), some (zci (t)), some (zci (B (66 + 17 * t) 2)), some (zci ((-1))), some (zci (3)), some (zci (B (66 + 17 * t) 2))] _ _ _
            refine xg_step rfl rfl (fun k => rfl) ?_
            refine xg_step rfl rfl (fun k => rfl) ?_
            refine xg_step rfl rfl (fun k => rfl) ?_
            have e : (-1) = zSG B t := by simp only [zSG]; omega
            rw [← e] at hq
            exact zm_135n hB hC ht (by omega) hvw hq hmid
          ·
            refine xg_step rfl rfl (fun k => rfl) ?_
            refine xg_step rfl rfl (fun k => rfl) ?_
            refine zg_gt rfl rfl (fun x y k => rfl) (by first | assumption | exact hA _ _ | exact hB _ _ | exact hC _ _ | exact zrg_max (by assumption) (hA _ _) | (constructor <;> omega)) (by first | assumption | exact hA _ _ | exact hB _ _ | exact hC _ _ | exact zrg_max (by assumption) (hA _ _) | (constructor <;> omega)) (fun hc => ?_) (fun hc => ?_)
            ·
              refine xg_step rfl rfl (fun k => rfl) ?_
              refine xg_step rfl rfl (fun k => rfl) ?_
              show XG _ _ 49 [some (.ref 107), some (zci (t)), some (zci ((-1))), some (zci (B (66 + 17 * t) 2)), some (zci (2)), some (zci (B (66 + 17 * t) 2))] _ _ _
              refine zg_inc (y := 3) rfl rfl (by decide) rfl ?_
              refine xg_step rfl rfl (fun k => rfl) ?_
              show XG _ _ 7 [some (.ref 107), some (zci (t)), some (zci ((-1))), some (zci (B (66 + 17 * t) 2)), some (zci (3)), some (zci (B (66 + 17 * t) 2))] _ _ _
              refine xg_step rfl rfl (fun k => rfl) ?_
              refine xg_step rfl rfl (fun k => rfl) ?_
              refine xg_step rfl rfl (fun k => rfl) ?_
              have e : B (66 + 17 * t) 2 = zSG B t := by simp only [zSG]; omega
              rw [← e] at hq
              exact zm_135n hB hC ht (by omega) hvw hq hmid
            ·
              show XG _ _ 49 [some (.ref 107), some (zci (t)), some (zci ((-1))), some (zci ((-1))), some (zci (2)), some (zci (B (66 + 17 * t) 2))] _ _ _
              refine zg_inc (y := 3) rfl rfl (by decide) rfl ?_
              refine xg_step rfl rfl (fun k => rfl) ?_
              show XG _ _ 7 [some (.ref 107), some (zci (t)), some (zci ((-1))), some (zci ((-1))), some (zci (3)), some (zci (B (66 + 17 * t) 2))] _ _ _
              refine xg_step rfl rfl (fun k => rfl) ?_
              refine xg_step rfl rfl (fun k => rfl) ?_
              refine xg_step rfl rfl (fun k => rfl) ?_
              have e : (-1) = zSG B t := by simp only [zSG]; omega
              rw [← e] at hq
              exact zm_135n hB hC ht (by omega) hvw hq hmid
set_option maxRecDepth 10000 in
theorem zq_135y {d : Nat} {A B C : ZM} (hB : zRg B) (hC : zRg C) {t : Int} (ht : 0 ≤ t ∧ t < 3) (hvw : 0 ≤ B (56 + 17 * t) 7 ∧ B (56 + 17 * t) 7 < 31) (has : ∀ p, 0 ≤ p ∧ p < 3 → -1 ≤ B (66 + 17 * t) p ∧ B (66 + 17 * t) p < 31) (hq : B (56 + 17 * t) 7 < zSG B t) {B2 C2 B3 C3 : ZM} {n rv : Int} (hm1 : XR (d + 2) 121 [.ref 107, zci t, zci 2, zci (zSG B t), zci 0, zci 0] (zhp A (zmg (zturn B t (zSG B t) 0) (zup C 140 t 0))) (some (zci rv), zhp A (zmg B2 C2))) (hm2 : XR (d + 2) 128 [.ref 107, zci t] (zhp A (zmg B2 C2)) (some (zci n), zhp A (zmg B3 C3))) : XR (d + 3) 135 [.ref 107, zci (t)] (zhp A (zmg B C)) (some (zci 1), zhp A (zmg B3 C3)) := by
  have a0 := has 0 (by omega)
  have a1 := has 1 (by omega)
  have a2 := has 2 (by omega)
  refine XR.of (Nat.le_of_ble_eq_true rfl) rfl ?_
  refine xg_step rfl rfl (fun k => rfl) ?_
  refine xg_step rfl rfl (fun k => rfl) ?_
  refine xg_step rfl rfl (fun k => rfl) ?_
  refine xg_step rfl rfl (fun k => rfl) ?_
  refine xg_step rfl rfl (fun k => rfl) ?_
  refine xg_step rfl rfl (fun k => rfl) ?_
  show XG _ _ 7 [some (.ref 107), some (zci (t)), some (zci ((-1))), some (zci ((-1))), some (zci (0)), none] _ _ _
  refine xg_step rfl rfl (fun k => rfl) ?_
  refine xg_step rfl rfl (fun k => rfl) ?_
  refine xg_step rfl rfl (fun k => rfl) ?_
  refine xg_step rfl rfl (fun k => rfl) ?_
  refine xg_get rfl rfl (zha (by decide)) zc_RefM rfl rfl ?_
  refine xg_step rfl rfl (fun k => rfl) ?_
  refine xg_step rfl rfl (fun k => rfl) ?_
  refine zg_mul rfl ?_
  refine xg_step rfl rfl (fun k => rfl) ?_
  refine zg_add rfl ?_
  refine zg_ald (.inl ⟨rfl, rfl⟩) (zha (by decide)) zc_r_asked (by decide) ⟨by omega, by omega⟩ (zvB (zk_asked (by omega) (by omega)) (by omega)) ?_
  refine xg_step rfl rfl (fun k => rfl) ?_
  refine xg_step rfl rfl (fun k => rfl) ?_
  refine xg_step rfl rfl (fun k => rfl) ?_
  refine zg_gt rfl rfl (fun x y k => rfl) (by first | assumption | exact hA _ _ | exact hB _ _ | exact hC _ _ | exact zrg_max (by assumption) (hA _ _) | (constructor <;> omega)) (by first | assumption | exact hA _ _ | exact hB _ _ | exact hC _ _ | exact zrg_max (by assumption) (hA _ _) | (constructor <;> omega)) (fun hc => ?_) (fun hc => ?_)
  ·
    refine xg_step rfl rfl (fun k => rfl) ?_
    refine xg_step rfl rfl (fun k => rfl) ?_
    refine xg_step rfl rfl (fun k => rfl) ?_
    refine xg_step rfl rfl (fun k => rfl) ?_
    refine xg_step rfl rfl (fun k => rfl) ?_
    show XG _ _ 49 [some (.ref 107), some (zci (t)), some (zci (B (66 + 17 * t) 0)), some (zci ((-1))), some (zci (0)), some (zci (B (66 + 17 * t) 0))] _ _ _
    refine zg_inc (y := 1) rfl rfl (by decide) rfl ?_
    refine xg_step rfl rfl (fun k => rfl) ?_
    show XG _ _ 7 [some (.ref 107), some (zci (t)), some (zci (B (66 + 17 * t) 0)), some (zci ((-1))), some (zci (1)), some (zci (B (66 + 17 * t) 0))] _ _ _
    refine xg_step rfl rfl (fun k => rfl) ?_
    refine xg_step rfl rfl (fun k => rfl) ?_
    refine xg_step rfl rfl (fun k => rfl) ?_
    refine xg_step rfl rfl (fun k => rfl) ?_
    refine xg_get rfl rfl (zha (by decide)) zc_RefM rfl rfl ?_
    refine xg_step rfl rfl (fun k => rfl) ?_
    refine xg_step rfl rfl (fun k => rfl) ?_
    refine zg_mul rfl ?_
    refine xg_step rfl rfl (fun k => rfl) ?_
    refine zg_add rfl ?_
    refine zg_ald (.inl ⟨rfl, rfl⟩) (zha (by decide)) zc_r_asked (by decide) ⟨by omega, by omega⟩ (zvB (zk_asked (by omega) (by omega)) (by omega)) ?_
    refine xg_step rfl rfl (fun k => rfl) ?_
    refine xg_step rfl rfl (fun k => rfl) ?_
    refine xg_step rfl rfl (fun k => rfl) ?_
    refine zg_gt rfl rfl (fun x y k => rfl) (by first | assumption | exact hA _ _ | exact hB _ _ | exact hC _ _ | exact zrg_max (by assumption) (hA _ _) | (constructor <;> omega)) (by first | assumption | exact hA _ _ | exact hB _ _ | exact hC _ _ | exact zrg_max (by assumption) (hA _ _) | (constructor <;> omega)) (fun hc => ?_) (fun hc => ?_)
    ·
      refine xg_step rfl rfl (fun k => rfl) ?_
      refine xg_step rfl rfl (fun k => rfl) ?_
      refine xg_step rfl rfl (fun k => rfl) ?_
      refine xg_step rfl rfl (fun k => rfl) ?_
      refine xg_step rfl rfl (fun k => rfl) ?_
      show XG _ _ 49 [some (.ref 107), some (zci (t)), some (zci (B (66 + 17 * t) 1)), some (zci (B (66 + 17 * t) 0)), some (zci (1)), some (zci (B (66 + 17 * t) 1))] _ _ _
      refine zg_inc (y := 2) rfl rfl (by decide) rfl ?_
      refine xg_step rfl rfl (fun k => rfl) ?_
      show XG _ _ 7 [some (.ref 107), some (zci (t)), some (zci (B (66 + 17 * t) 1)), some (zci (B (66 + 17 * t) 0)), some (zci (2)), some (zci (B (66 + 17 * t) 1))] _ _ _
      refine xg_step rfl rfl (fun k => rfl) ?_
      refine xg_step rfl rfl (fun k => rfl) ?_
      refine xg_step rfl rfl (fun k => rfl) ?_
      refine xg_step rfl rfl (fun k => rfl) ?_
      refine xg_get rfl rfl (zha (by decide)) zc_RefM rfl rfl ?_
      refine xg_step rfl rfl (fun k => rfl) ?_
      refine xg_step rfl rfl (fun k => rfl) ?_
      refine zg_mul rfl ?_
      refine xg_step rfl rfl (fun k => rfl) ?_
      refine zg_add rfl ?_
      refine zg_ald (.inl ⟨rfl, rfl⟩) (zha (by decide)) zc_r_asked (by decide) ⟨by omega, by omega⟩ (zvB (zk_asked (by omega) (by omega)) (by omega)) ?_
      refine xg_step rfl rfl (fun k => rfl) ?_
      refine xg_step rfl rfl (fun k => rfl) ?_
      refine xg_step rfl rfl (fun k => rfl) ?_
      refine zg_gt rfl rfl (fun x y k => rfl) (by first | assumption | exact hA _ _ | exact hB _ _ | exact hC _ _ | exact zrg_max (by assumption) (hA _ _) | (constructor <;> omega)) (by first | assumption | exact hA _ _ | exact hB _ _ | exact hC _ _ | exact zrg_max (by assumption) (hA _ _) | (constructor <;> omega)) (fun hc => ?_) (fun hc => ?_)
      ·
        refine xg_step rfl rfl (fun k => rfl) ?_
        refine xg_step rfl rfl (fun k => rfl) ?_
        refine xg_step rfl rfl (fun k => rfl) ?_
        refine xg_step rfl rfl (fun k => rfl) ?_
        refine xg_step rfl rfl (fun k => rfl) ?_
        show XG _ _ 49 [some (.ref 107), some (zci (t)), some (zci (B (66 + 17 * t) 2)), some (zci (B (66 + 17 * t) 1)), some (zci (2)), some (zci (B (66 + 17 * t) 2))] _ _ _
        refine zg_inc (y := 3) rfl rfl (by decide) rfl ?_
        refine xg_step rfl rfl (fun k => rfl) ?_
        show XG _ _ 7 [some (.ref 107), some (zci (t)), some (zci (B (66 + 17 * t) 2)), some (zci (B (66 + 17 * t) 1)), some (zci (3)), some (zci (B (66 + 17 * t) 2))] _ _ _
        refine xg_step rfl rfl (fun k => rfl) ?_
        refine xg_step rfl rfl (fun k => rfl) ?_
        refine xg_step rfl rfl (fun k => rfl) ?_
        have e : B (66 + 17 * t) 1 = zSG B t := by simp only [zSG]; omega
        rw [← e] at hq hm1
        exact zm_135y hB hC ht (by omega) hvw hq hm1 hm2
      ·
        refine xg_step rfl rfl (fun k => rfl) ?_
        refine xg_step rfl rfl (fun k => rfl) ?_
        refine zg_gt rfl rfl (fun x y k => rfl) (by first | assumption | exact hA _ _ | exact hB _ _ | exact hC _ _ | exact zrg_max (by assumption) (hA _ _) | (constructor <;> omega)) (by first | assumption | exact hA _ _ | exact hB _ _ | exact hC _ _ | exact zrg_max (by assumption) (hA _ _) | (constructor <;> omega)) (fun hc => ?_) (fun hc => ?_)
        ·
          refine xg_step rfl rfl (fun k => rfl) ?_
          refine xg_step rfl rfl (fun k => rfl) ?_
          show XG _ _ 49 [some (.ref 107), some (zci (t)), some (zci (B (66 + 17 * t) 1)), some (zci (B (66 + 17 * t) 2)), some (zci (2)), some (zci (B (66 + 17 * t) 2))] _ _ _
          refine zg_inc (y := 3) rfl rfl (by decide) rfl ?_
          refine xg_step rfl rfl (fun k => rfl) ?_
          show XG _ _ 7 [some (.ref 107), some (zci (t)), some (zci (B (66 + 17 * t) 1)), some (zci (B (66 + 17 * t) 2)), some (zci (3)), some (zci (B (66 + 17 * t) 2))] _ _ _
          refine xg_step rfl rfl (fun k => rfl) ?_
          refine xg_step rfl rfl (fun k => rfl) ?_
          refine xg_step rfl rfl (fun k => rfl) ?_
          have e : B (66 + 17 * t) 2 = zSG B t := by simp only [zSG]; omega
          rw [← e] at hq hm1
          exact zm_135y hB hC ht (by omega) hvw hq hm1 hm2
        ·
          show XG _ _ 49 [some (.ref 107), some (zci (t)), some (zci (B (66 + 17 * t) 1)), some (zci (B (66 + 17 * t) 0)), some (zci (2)), some (zci (B (66 + 17 * t) 2))] _ _ _
          refine zg_inc (y := 3) rfl rfl (by decide) rfl ?_
          refine xg_step rfl rfl (fun k => rfl) ?_
          show XG _ _ 7 [some (.ref 107), some (zci (t)), some (zci (B (66 + 17 * t) 1)), some (zci (B (66 + 17 * t) 0)), some (zci (3)), some (zci (B (66 + 17 * t) 2))] _ _ _
          refine xg_step rfl rfl (fun k => rfl) ?_
          refine xg_step rfl rfl (fun k => rfl) ?_
          refine xg_step rfl rfl (fun k => rfl) ?_
          have e : B (66 + 17 * t) 0 = zSG B t := by simp only [zSG]; omega
          rw [← e] at hq hm1
          exact zm_135y hB hC ht (by omega) hvw hq hm1 hm2
    ·
      refine xg_step rfl rfl (fun k => rfl) ?_
      refine xg_step rfl rfl (fun k => rfl) ?_
      refine zg_gt rfl rfl (fun x y k => rfl) (by first | assumption | exact hA _ _ | exact hB _ _ | exact hC _ _ | exact zrg_max (by assumption) (hA _ _) | (constructor <;> omega)) (by first | assumption | exact hA _ _ | exact hB _ _ | exact hC _ _ | exact zrg_max (by assumption) (hA _ _) | (constructor <;> omega)) (fun hc => ?_) (fun hc => ?_)
      ·
        refine xg_step rfl rfl (fun k => rfl) ?_
        refine xg_step rfl rfl (fun k => rfl) ?_
        show XG _ _ 49 [some (.ref 107), some (zci (t)), some (zci (B (66 + 17 * t) 0)), some (zci (B (66 + 17 * t) 1)), some (zci (1)), some (zci (B (66 + 17 * t) 1))] _ _ _
        refine zg_inc (y := 2) rfl rfl (by decide) rfl ?_
        refine xg_step rfl rfl (fun k => rfl) ?_
        show XG _ _ 7 [some (.ref 107), some (zci (t)), some (zci (B (66 + 17 * t) 0)), some (zci (B (66 + 17 * t) 1)), some (zci (2)), some (zci (B (66 + 17 * t) 1))] _ _ _
        refine xg_step rfl rfl (fun k => rfl) ?_
        refine xg_step rfl rfl (fun k => rfl) ?_
        refine xg_step rfl rfl (fun k => rfl) ?_
        refine xg_step rfl rfl (fun k => rfl) ?_
        refine xg_get rfl rfl (zha (by decide)) zc_RefM rfl rfl ?_
        refine xg_step rfl rfl (fun k => rfl) ?_
        refine xg_step rfl rfl (fun k => rfl) ?_
        refine zg_mul rfl ?_
        refine xg_step rfl rfl (fun k => rfl) ?_
        refine zg_add rfl ?_
        refine zg_ald (.inl ⟨rfl, rfl⟩) (zha (by decide)) zc_r_asked (by decide) ⟨by omega, by omega⟩ (zvB (zk_asked (by omega) (by omega)) (by omega)) ?_
        refine xg_step rfl rfl (fun k => rfl) ?_
        refine xg_step rfl rfl (fun k => rfl) ?_
        refine xg_step rfl rfl (fun k => rfl) ?_
        refine zg_gt rfl rfl (fun x y k => rfl) (by first | assumption | exact hA _ _ | exact hB _ _ | exact hC _ _ | exact zrg_max (by assumption) (hA _ _) | (constructor <;> omega)) (by first | assumption | exact hA _ _ | exact hB _ _ | exact hC _ _ | exact zrg_max (by assumption) (hA _ _) | (constructor <;> omega)) (fun hc => ?_) (fun hc => ?_)
        ·
          refine xg_step rfl rfl (fun k => rfl) ?_
          refine xg_step rfl rfl (fun k => rfl) ?_
          refine xg_step rfl rfl (fun k => rfl) ?_
          refine xg_step rfl rfl (fun k => rfl) ?_
          refine xg_step rfl rfl (fun k => rfl) ?_
          show XG _ _ 49 [some (.ref 107), some (zci (t)), some (zci (B (66 + 17 * t) 2)), some (zci (B (66 + 17 * t) 0)), some (zci (2)), some (zci (B (66 + 17 * t) 2))] _ _ _
          refine zg_inc (y := 3) rfl rfl (by decide) rfl ?_
          refine xg_step rfl rfl (fun k => rfl) ?_
          show XG _ _ 7 [some (.ref 107), some (zci (t)), some (zci (B (66 + 17 * t) 2)), some (zci (B (66 + 17 * t) 0)), some (zci (3)), some (zci (B (66 + 17 * t) 2))] _ _ _
          refine xg_step rfl rfl (fun k => rfl) ?_
          refine xg_step rfl rfl (fun k => rfl) ?_
          refine xg_step rfl rfl (fun k => rfl) ?_
          have e : B (66 + 17 * t) 0 = zSG B t := by simp only [zSG]; omega
          rw [← e] at hq hm1
          exact zm_135y hB hC ht (by omega) hvw hq hm1 hm2
        ·
          refine xg_step rfl rfl (fun k => rfl) ?_
          refine xg_step rfl rfl (fun k => rfl) ?_
          refine zg_gt rfl rfl (fun x y k => rfl) (by first | assumption | exact hA _ _ | exact hB _ _ | exact hC _ _ | exact zrg_max (by assumption) (hA _ _) | (constructor <;> omega)) (by first | assumption | exact hA _ _ | exact hB _ _ | exact hC _ _ | exact zrg_max (by assumption) (hA _ _) | (constructor <;> omega)) (fun hc => ?_) (fun hc => ?_)
          ·
            refine xg_step rfl rfl (fun k => rfl) ?_
            refine xg_step rfl rfl (fun k => rfl) ?_
            show XG _ _ 49 [some (.ref 107), some (zci (t)), some (zci (B (66 + 17 * t) 0)), some (zci (B (66 + 17 * t) 2)), some (zci (2)), some (zci (B (66 + 17 * t) 2))] _ _ _
            refine zg_inc (y := 3) rfl rfl (by decide) rfl ?_
            refine xg_step rfl rfl (fun k => rfl) ?_
            show XG _ _ 7 [some (.ref 107), some (zci (t)), some (zci (B (66 + 17 * t) 0)), some (zci (B (66 + 17 * t) 2)), some (zci (3)), some (zci (B (66 + 17 * t) 2))] _ _ _
            refine xg_step rfl rfl (fun k => rfl) ?_
            refine xg_step rfl rfl (fun k => rfl) ?_
            refine xg_step rfl rfl (fun k => rfl) ?_
            have e : B (66 + 17 * t) 2 = zSG B t := by simp only [zSG]; omega
            rw [← e] at hq hm1
            exact zm_135y hB hC ht (by omega) hvw hq hm1 hm2
          ·
            show XG _ _ 49 [some (.ref 107), some (zci (t)), some (zci (B (66 + 17 * t) 0)), some (zci (B (66 + 17 * t) 1)), some (zci (2)), some (zci (B (66 + 17 * t) 2))] _ _ _
            refine zg_inc (y := 3) rfl rfl (by decide) rfl ?_
            refine xg_step rfl rfl (fun k => rfl) ?_
            show XG _ _ 7 [some (.ref 107), some (zci (t)), some (zci (B (66 + 17 * t) 0)), some (zci (B (66 + 17 * t) 1)), some (zci (3)), some (zci (B (66 + 17 * t) 2))] _ _ _
            refine xg_step rfl rfl (fun k => rfl) ?_
            refine xg_step rfl rfl (fun k => rfl) ?_
            refine xg_step rfl rfl (fun k => rfl) ?_
            have e : B (66 + 17 * t) 1 = zSG B t := by simp only [zSG]; omega
            rw [← e] at hq hm1
            exact zm_135y hB hC ht (by omega) hvw hq hm1 hm2
      ·
        show XG _ _ 49 [some (.ref 107), some (zci (t)), some (zci (B (66 + 17 * t) 0)), some (zci ((-1))), some (zci (1)), some (zci (B (66 + 17 * t) 1))] _ _ _
        refine zg_inc (y := 2) rfl rfl (by decide) rfl ?_
        refine xg_step rfl rfl (fun k => rfl) ?_
        show XG _ _ 7 [some (.ref 107), some (zci (t)), some (zci (B (66 + 17 * t) 0)), some (zci ((-1))), some (zci (2)), some (zci (B (66 + 17 * t) 1))] _ _ _
        refine xg_step rfl rfl (fun k => rfl) ?_
        refine xg_step rfl rfl (fun k => rfl) ?_
        refine xg_step rfl rfl (fun k => rfl) ?_
        refine xg_step rfl rfl (fun k => rfl) ?_
        refine xg_get rfl rfl (zha (by decide)) zc_RefM rfl rfl ?_
        refine xg_step rfl rfl (fun k => rfl) ?_
        refine xg_step rfl rfl (fun k => rfl) ?_
        refine zg_mul rfl ?_
        refine xg_step rfl rfl (fun k => rfl) ?_
        refine zg_add rfl ?_
        refine zg_ald (.inl ⟨rfl, rfl⟩) (zha (by decide)) zc_r_asked (by decide) ⟨by omega, by omega⟩ (zvB (zk_asked (by omega) (by omega)) (by omega)) ?_
        refine xg_step rfl rfl (fun k => rfl) ?_
        refine xg_step rfl rfl (fun k => rfl) ?_
        refine xg_step rfl rfl (fun k => rfl) ?_
        refine zg_gt rfl rfl (fun x y k => rfl) (by first | assumption | exact hA _ _ | exact hB _ _ | exact hC _ _ | exact zrg_max (by assumption) (hA _ _) | (constructor <;> omega)) (by first | assumption | exact hA _ _ | exact hB _ _ | exact hC _ _ | exact zrg_max (by assumption) (hA _ _) | (constructor <;> omega)) (fun hc => ?_) (fun hc => ?_)
        ·
          refine xg_step rfl rfl (fun k => rfl) ?_
          refine xg_step rfl rfl (fun k => rfl) ?_
          refine xg_step rfl rfl (fun k => rfl) ?_
          refine xg_step rfl rfl (fun k => rfl) ?_
          refine xg_step rfl rfl (fun k => rfl) ?_
          show XG _ _ 49 [some (.ref 107), some (zci (t)), some (zci (B (66 + 17 * t) 2)), some (zci (B (66 + 17 * t) 0)), some (zci (2)), some (zci (B (66 + 17 * t) 2))] _ _ _
          refine zg_inc (y := 3) rfl rfl (by decide) rfl ?_
          refine xg_step rfl rfl (fun k => rfl) ?_
          show XG _ _ 7 [some (.ref 107), some (zci (t)), some (zci (B (66 + 17 * t) 2)), some (zci (B (66 + 17 * t) 0)), some (zci (3)), some (zci (B (66 + 17 * t) 2))] _ _ _
          refine xg_step rfl rfl (fun k => rfl) ?_
          refine xg_step rfl rfl (fun k => rfl) ?_
          refine xg_step rfl rfl (fun k => rfl) ?_
          have e : B (66 + 17 * t) 0 = zSG B t := by simp only [zSG]; omega
          rw [← e] at hq hm1
          exact zm_135y hB hC ht (by omega) hvw hq hm1 hm2
        ·
          refine xg_step rfl rfl (fun k => rfl) ?_
          refine xg_step rfl rfl (fun k => rfl) ?_
          refine zg_gt rfl rfl (fun x y k => rfl) (by first | assumption | exact hA _ _ | exact hB _ _ | exact hC _ _ | exact zrg_max (by assumption) (hA _ _) | (constructor <;> omega)) (by first | assumption | exact hA _ _ | exact hB _ _ | exact hC _ _ | exact zrg_max (by assumption) (hA _ _) | (constructor <;> omega)) (fun hc => ?_) (fun hc => ?_)
          ·
            refine xg_step rfl rfl (fun k => rfl) ?_
            refine xg_step rfl rfl (fun k => rfl) ?_
            show XG _ _ 49 [some (.ref 107), some (zci (t)), some (zci (B (66 + 17 * t) 0)), some (zci (B (66 + 17 * t) 2)), some (zci (2)), some (zci (B (66 + 17 * t) 2))] _ _ _
            refine zg_inc (y := 3) rfl rfl (by decide) rfl ?_
            refine xg_step rfl rfl (fun k => rfl) ?_
            show XG _ _ 7 [some (.ref 107), some (zci (t)), some (zci (B (66 + 17 * t) 0)), some (zci (B (66 + 17 * t) 2)), some (zci (3)), some (zci (B (66 + 17 * t) 2))] _ _ _
            refine xg_step rfl rfl (fun k => rfl) ?_
            refine xg_step rfl rfl (fun k => rfl) ?_
            refine xg_step rfl rfl (fun k => rfl) ?_
            have e : B (66 + 17 * t) 2 = zSG B t := by simp only [zSG]; omega
            rw [← e] at hq hm1
            exact zm_135y hB hC ht (by omega) hvw hq hm1 hm2
          ·
            show XG _ _ 49 [some (.ref 107), some (zci (t)), some (zci (B (66 + 17 * t) 0)), some (zci ((-1))), some (zci (2)), some (zci (B (66 + 17 * t) 2))] _ _ _
            refine zg_inc (y := 3) rfl rfl (by decide) rfl ?_
            refine xg_step rfl rfl (fun k => rfl) ?_
            show XG _ _ 7 [some (.ref 107), some (zci (t)), some (zci (B (66 + 17 * t) 0)), some (zci ((-1))), some (zci (3)), some (zci (B (66 + 17 * t) 2))] _ _ _
            refine xg_step rfl rfl (fun k => rfl) ?_
            refine xg_step rfl rfl (fun k => rfl) ?_
            refine xg_step rfl rfl (fun k => rfl) ?_
            have e : (-1) = zSG B t := by simp only [zSG]; omega
            rw [← e] at hq hm1
            exact zm_135y hB hC ht (by omega) hvw hq hm1 hm2
  ·
    refine xg_step rfl rfl (fun k => rfl) ?_
    refine xg_step rfl rfl (fun k => rfl) ?_
    refine zg_gt rfl rfl (fun x y k => rfl) (by first | assumption | exact hA _ _ | exact hB _ _ | exact hC _ _ | exact zrg_max (by assumption) (hA _ _) | (constructor <;> omega)) (by first | assumption | exact hA _ _ | exact hB _ _ | exact hC _ _ | exact zrg_max (by assumption) (hA _ _) | (constructor <;> omega)) (fun hc => ?_) (fun hc => ?_)
    ·
      refine xg_step rfl rfl (fun k => rfl) ?_
      refine xg_step rfl rfl (fun k => rfl) ?_
      show XG _ _ 49 [some (.ref 107), some (zci (t)), some (zci ((-1))), some (zci (B (66 + 17 * t) 0)), some (zci (0)), some (zci (B (66 + 17 * t) 0))] _ _ _
      refine zg_inc (y := 1) rfl rfl (by decide) rfl ?_
      refine xg_step rfl rfl (fun k => rfl) ?_
      show XG _ _ 7 [some (.ref 107), some (zci (t)), some (zci ((-1))), some (zci (B (66 + 17 * t) 0)), some (zci (1)), some (zci (B (66 + 17 * t) 0))] _ _ _
      refine xg_step rfl rfl (fun k => rfl) ?_
      refine xg_step rfl rfl (fun k => rfl) ?_
      refine xg_step rfl rfl (fun k => rfl) ?_
      refine xg_step rfl rfl (fun k => rfl) ?_
      refine xg_get rfl rfl (zha (by decide)) zc_RefM rfl rfl ?_
      refine xg_step rfl rfl (fun k => rfl) ?_
      refine xg_step rfl rfl (fun k => rfl) ?_
      refine zg_mul rfl ?_
      refine xg_step rfl rfl (fun k => rfl) ?_
      refine zg_add rfl ?_
      refine zg_ald (.inl ⟨rfl, rfl⟩) (zha (by decide)) zc_r_asked (by decide) ⟨by omega, by omega⟩ (zvB (zk_asked (by omega) (by omega)) (by omega)) ?_
      refine xg_step rfl rfl (fun k => rfl) ?_
      refine xg_step rfl rfl (fun k => rfl) ?_
      refine xg_step rfl rfl (fun k => rfl) ?_
      refine zg_gt rfl rfl (fun x y k => rfl) (by first | assumption | exact hA _ _ | exact hB _ _ | exact hC _ _ | exact zrg_max (by assumption) (hA _ _) | (constructor <;> omega)) (by first | assumption | exact hA _ _ | exact hB _ _ | exact hC _ _ | exact zrg_max (by assumption) (hA _ _) | (constructor <;> omega)) (fun hc => ?_) (fun hc => ?_)
      ·
        refine xg_step rfl rfl (fun k => rfl) ?_
        refine xg_step rfl rfl (fun k => rfl) ?_
        refine xg_step rfl rfl (fun k => rfl) ?_
        refine xg_step rfl rfl (fun k => rfl) ?_
        refine xg_step rfl rfl (fun k => rfl) ?_
        show XG _ _ 49 [some (.ref 107), some (zci (t)), some (zci (B (66 + 17 * t) 1)), some (zci ((-1))), some (zci (1)), some (zci (B (66 + 17 * t) 1))] _ _ _
        refine zg_inc (y := 2) rfl rfl (by decide) rfl ?_
        refine xg_step rfl rfl (fun k => rfl) ?_
        show XG _ _ 7 [some (.ref 107), some (zci (t)), some (zci (B (66 + 17 * t) 1)), some (zci ((-1))), some (zci (2)), some (zci (B (66 + 17 * t) 1))] _ _ _
        refine xg_step rfl rfl (fun k => rfl) ?_
        refine xg_step rfl rfl (fun k => rfl) ?_
        refine xg_step rfl rfl (fun k => rfl) ?_
        refine xg_step rfl rfl (fun k => rfl) ?_
        refine xg_get rfl rfl (zha (by decide)) zc_RefM rfl rfl ?_
        refine xg_step rfl rfl (fun k => rfl) ?_
        refine xg_step rfl rfl (fun k => rfl) ?_
        refine zg_mul rfl ?_
        refine xg_step rfl rfl (fun k => rfl) ?_
        refine zg_add rfl ?_
        refine zg_ald (.inl ⟨rfl, rfl⟩) (zha (by decide)) zc_r_asked (by decide) ⟨by omega, by omega⟩ (zvB (zk_asked (by omega) (by omega)) (by omega)) ?_
        refine xg_step rfl rfl (fun k => rfl) ?_
        refine xg_step rfl rfl (fun k => rfl) ?_
        refine xg_step rfl rfl (fun k => rfl) ?_
        refine zg_gt rfl rfl (fun x y k => rfl) (by first | assumption | exact hA _ _ | exact hB _ _ | exact hC _ _ | exact zrg_max (by assumption) (hA _ _) | (constructor <;> omega)) (by first | assumption | exact hA _ _ | exact hB _ _ | exact hC _ _ | exact zrg_max (by assumption) (hA _ _) | (constructor <;> omega)) (fun hc => ?_) (fun hc => ?_)
        ·
          refine xg_step rfl rfl (fun k => rfl) ?_
          refine xg_step rfl rfl (fun k => rfl) ?_
          refine xg_step rfl rfl (fun k => rfl) ?_
          refine xg_step rfl rfl (fun k => rfl) ?_
          refine xg_step rfl rfl (fun k => rfl) ?_
          show XG _ _ 49 [some (.ref 107), some (zci (t)), some (zci (B (66 + 17 * t) 2)), some (zci (B (66 + 17 * t) 1)), some (zci (2)), some (zci (B (66 + 17 * t) 2))] _ _ _
          refine zg_inc (y := 3) rfl rfl (by decide) rfl ?_
          refine xg_step rfl rfl (fun k => rfl) ?_
          show XG _ _ 7 [some (.ref 107), some (zci (t)), some (zci (B (66 + 17 * t) 2)), some (zci (B (66 + 17 * t) 1)), some (zci (3)), some (zci (B (66 + 17 * t) 2))] _ _ _
          refine xg_step rfl rfl (fun k => rfl) ?_
          refine xg_step rfl rfl (fun k => rfl) ?_
          refine xg_step rfl rfl (fun k => rfl) ?_
          have e : B (66 + 17 * t) 1 = zSG B t := by simp only [zSG]; omega
          rw [← e] at hq hm1
          exact zm_135y hB hC ht (by omega) hvw hq hm1 hm2
        ·
          refine xg_step rfl rfl (fun k => rfl) ?_
          refine xg_step rfl rfl (fun k => rfl) ?_
          refine zg_gt rfl rfl (fun x y k => rfl) (by first | assumption | exact hA _ _ | exact hB _ _ | exact hC _ _ | exact zrg_max (by assumption) (hA _ _) | (constructor <;> omega)) (by first | assumption | exact hA _ _ | exact hB _ _ | exact hC _ _ | exact zrg_max (by assumption) (hA _ _) | (constructor <;> omega)) (fun hc => ?_) (fun hc => ?_)
          ·
            refine xg_step rfl rfl (fun k => rfl) ?_
            refine xg_step rfl rfl (fun k => rfl) ?_
            show XG _ _ 49 [some (.ref 107), some (zci (t)), some (zci (B (66 + 17 * t) 1)), some (zci (B (66 + 17 * t) 2)), some (zci (2)), some (zci (B (66 + 17 * t) 2))] _ _ _
            refine zg_inc (y := 3) rfl rfl (by decide) rfl ?_
            refine xg_step rfl rfl (fun k => rfl) ?_
            show XG _ _ 7 [some (.ref 107), some (zci (t)), some (zci (B (66 + 17 * t) 1)), some (zci (B (66 + 17 * t) 2)), some (zci (3)), some (zci (B (66 + 17 * t) 2))] _ _ _
            refine xg_step rfl rfl (fun k => rfl) ?_
            refine xg_step rfl rfl (fun k => rfl) ?_
            refine xg_step rfl rfl (fun k => rfl) ?_
            have e : B (66 + 17 * t) 2 = zSG B t := by simp only [zSG]; omega
            rw [← e] at hq hm1
            exact zm_135y hB hC ht (by omega) hvw hq hm1 hm2
          ·
            show XG _ _ 49 [some (.ref 107), some (zci (t)), some (zci (B (66 + 17 * t) 1)), some (zci ((-1))), some (zci (2)), some (zci (B (66 + 17 * t) 2))] _ _ _
            refine zg_inc (y := 3) rfl rfl (by decide) rfl ?_
            refine xg_step rfl rfl (fun k => rfl) ?_
            show XG _ _ 7 [some (.ref 107), some (zci (t)), some (zci (B (66 + 17 * t) 1)), some (zci ((-1))), some (zci (3)), some (zci (B (66 + 17 * t) 2))] _ _ _
            refine xg_step rfl rfl (fun k => rfl) ?_
            refine xg_step rfl rfl (fun k => rfl) ?_
            refine xg_step rfl rfl (fun k => rfl) ?_
            have e : (-1) = zSG B t := by simp only [zSG]; omega
            rw [← e] at hq hm1
            exact zm_135y hB hC ht (by omega) hvw hq hm1 hm2
      ·
        refine xg_step rfl rfl (fun k => rfl) ?_
        refine xg_step rfl rfl (fun k => rfl) ?_
        refine zg_gt rfl rfl (fun x y k => rfl) (by first | assumption | exact hA _ _ | exact hB _ _ | exact hC _ _ | exact zrg_max (by assumption) (hA _ _) | (constructor <;> omega)) (by first | assumption | exact hA _ _ | exact hB _ _ | exact hC _ _ | exact zrg_max (by assumption) (hA _ _) | (constructor <;> omega)) (fun hc => ?_) (fun hc => ?_)
        ·
          refine xg_step rfl rfl (fun k => rfl) ?_
          refine xg_step rfl rfl (fun k => rfl) ?_
          show XG _ _ 49 [some (.ref 107), some (zci (t)), some (zci ((-1))), some (zci (B (66 + 17 * t) 1)), some (zci (1)), some (zci (B (66 + 17 * t) 1))] _ _ _
          refine zg_inc (y := 2) rfl rfl (by decide) rfl ?_
          refine xg_step rfl rfl (fun k => rfl) ?_
          show XG _ _ 7 [some (.ref 107), some (zci (t)), some (zci ((-1))), some (zci (B (66 + 17 * t) 1)), some (zci (2)), some (zci (B (66 + 17 * t) 1))] _ _ _
          refine xg_step rfl rfl (fun k => rfl) ?_
          refine xg_step rfl rfl (fun k => rfl) ?_
          refine xg_step rfl rfl (fun k => rfl) ?_
          refine xg_step rfl rfl (fun k => rfl) ?_
          refine xg_get rfl rfl (zha (by decide)) zc_RefM rfl rfl ?_
          refine xg_step rfl rfl (fun k => rfl) ?_
          refine xg_step rfl rfl (fun k => rfl) ?_
          refine zg_mul rfl ?_
          refine xg_step rfl rfl (fun k => rfl) ?_
          refine zg_add rfl ?_
          refine zg_ald (.inl ⟨rfl, rfl⟩) (zha (by decide)) zc_r_asked (by decide) ⟨by omega, by omega⟩ (zvB (zk_asked (by omega) (by omega)) (by omega)) ?_
          refine xg_step rfl rfl (fun k => rfl) ?_
          refine xg_step rfl rfl (fun k => rfl) ?_
          refine xg_step rfl rfl (fun k => rfl) ?_
          refine zg_gt rfl rfl (fun x y k => rfl) (by first | assumption | exact hA _ _ | exact hB _ _ | exact hC _ _ | exact zrg_max (by assumption) (hA _ _) | (constructor <;> omega)) (by first | assumption | exact hA _ _ | exact hB _ _ | exact hC _ _ | exact zrg_max (by assumption) (hA _ _) | (constructor <;> omega)) (fun hc => ?_) (fun hc => ?_)
          ·
            refine xg_step rfl rfl (fun k => rfl) ?_
            refine xg_step rfl rfl (fun k => rfl) ?_
            refine xg_step rfl rfl (fun k => rfl) ?_
            refine xg_step rfl rfl (fun k => rfl) ?_
            refine xg_step rfl rfl (fun k => rfl) ?_
            show XG _ _ 49 [some (.ref 107), some (zci (t)), some (zci (B (66 + 17 * t) 2)), some (zci ((-1))), some (zci (2)), some (zci (B (66 + 17 * t) 2))] _ _ _
            refine zg_inc (y := 3) rfl rfl (by decide) rfl ?_
            refine xg_step rfl rfl (fun k => rfl) ?_
            show XG _ _ 7 [some (.ref 107), some (zci (t)), some (zci (B (66 + 17 * t) 2)), some (zci ((-1))), some (zci (3)), some (zci (B (66 + 17 * t) 2))] _ _ _
            refine xg_step rfl rfl (fun k => rfl) ?_
            refine xg_step rfl rfl (fun k => rfl) ?_
            refine xg_step rfl rfl (fun k => rfl) ?_
            have e : (-1) = zSG B t := by simp only [zSG]; omega
            rw [← e] at hq hm1
            exact zm_135y hB hC ht (by omega) hvw hq hm1 hm2
          ·
            refine xg_step rfl rfl (fun k => rfl) ?_
            refine xg_step rfl rfl (fun k => rfl) ?_
            refine zg_gt rfl rfl (fun x y k => rfl) (by first | assumption | exact hA _ _ | exact hB _ _ | exact hC _ _ | exact zrg_max (by assumption) (hA _ _) | (constructor <;> omega)) (by first | assumption | exact hA _ _ | exact hB _ _ | exact hC _ _ | exact zrg_max (by assumption) (hA _ _) | (constructor <;> omega)) (fun hc => ?_) (fun hc => ?_)
            ·
              refine xg_step rfl rfl (fun k => rfl) ?_
              refine xg_step rfl rfl (fun k => rfl) ?_
              show XG _ _ 49 [some (.ref 107), some (zci (t)), some (zci ((-1))), some (zci (B (66 + 17 * t) 2)), some (zci (2)), some (zci (B (66 + 17 * t) 2))] _ _ _
              refine zg_inc (y := 3) rfl rfl (by decide) rfl ?_
              refine xg_step rfl rfl (fun k => rfl) ?_
              show XG _ _ 7 [some (.ref 107), some (zci (t)), some (zci ((-1))), some (zci (B (66 + 17 * t) 2)), some (zci (3)), some (zci (B (66 + 17 * t) 2))] _ _ _
              refine xg_step rfl rfl (fun k => rfl) ?_
              refine xg_step rfl rfl (fun k => rfl) ?_
              refine xg_step rfl rfl (fun k => rfl) ?_
              have e : B (66 + 17 * t) 2 = zSG B t := by simp only [zSG]; omega
              rw [← e] at hq hm1
              exact zm_135y hB hC ht (by omega) hvw hq hm1 hm2
            ·
              show XG _ _ 49 [some (.ref 107), some (zci (t)), some (zci ((-1))), some (zci (B (66 + 17 * t) 1)), some (zci (2)), some (zci (B (66 + 17 * t) 2))] _ _ _
              refine zg_inc (y := 3) rfl rfl (by decide) rfl ?_
              refine xg_step rfl rfl (fun k => rfl) ?_
              show XG _ _ 7 [some (.ref 107), some (zci (t)), some (zci ((-1))), some (zci (B (66 + 17 * t) 1)), some (zci (3)), some (zci (B (66 + 17 * t) 2))] _ _ _
              refine xg_step rfl rfl (fun k => rfl) ?_
              refine xg_step rfl rfl (fun k => rfl) ?_
              refine xg_step rfl rfl (fun k => rfl) ?_
              have e : B (66 + 17 * t) 1 = zSG B t := by simp only [zSG]; omega
              rw [← e] at hq hm1
              exact zm_135y hB hC ht (by omega) hvw hq hm1 hm2
        ·
          show XG _ _ 49 [some (.ref 107), some (zci (t)), some (zci ((-1))), some (zci (B (66 + 17 * t) 0)), some (zci (1)), some (zci (B (66 + 17 * t) 1))] _ _ _
          refine zg_inc (y := 2) rfl rfl (by decide) rfl ?_
          refine xg_step rfl rfl (fun k => rfl) ?_
          show XG _ _ 7 [some (.ref 107), some (zci (t)), some (zci ((-1))), some (zci (B (66 + 17 * t) 0)), some (zci (2)), some (zci (B (66 + 17 * t) 1))] _ _ _
          refine xg_step rfl rfl (fun k => rfl) ?_
          refine xg_step rfl rfl (fun k => rfl) ?_
          refine xg_step rfl rfl (fun k => rfl) ?_
          refine xg_step rfl rfl (fun k => rfl) ?_
          refine xg_get rfl rfl (zha (by decide)) zc_RefM rfl rfl ?_
          refine xg_step rfl rfl (fun k => rfl) ?_
          refine xg_step rfl rfl (fun k => rfl) ?_
          refine zg_mul rfl ?_
          refine xg_step rfl rfl (fun k => rfl) ?_
          refine zg_add rfl ?_
          refine zg_ald (.inl ⟨rfl, rfl⟩) (zha (by decide)) zc_r_asked (by decide) ⟨by omega, by omega⟩ (zvB (zk_asked (by omega) (by omega)) (by omega)) ?_
          refine xg_step rfl rfl (fun k => rfl) ?_
          refine xg_step rfl rfl (fun k => rfl) ?_
          refine xg_step rfl rfl (fun k => rfl) ?_
          refine zg_gt rfl rfl (fun x y k => rfl) (by first | assumption | exact hA _ _ | exact hB _ _ | exact hC _ _ | exact zrg_max (by assumption) (hA _ _) | (constructor <;> omega)) (by first | assumption | exact hA _ _ | exact hB _ _ | exact hC _ _ | exact zrg_max (by assumption) (hA _ _) | (constructor <;> omega)) (fun hc => ?_) (fun hc => ?_)
          ·
            refine xg_step rfl rfl (fun k => rfl) ?_
            refine xg_step rfl rfl (fun k => rfl) ?_
            refine xg_step rfl rfl (fun k => rfl) ?_
            refine xg_step rfl rfl (fun k => rfl) ?_
            refine xg_step rfl rfl (fun k => rfl) ?_
            show XG _ _ 49 [some (.ref 107), some (zci (t)), some (zci (B (66 + 17 * t) 2)), some (zci ((-1))), some (zci (2)), some (zci (B (66 + 17 * t) 2))] _ _ _
            refine zg_inc (y := 3) rfl rfl (by decide) rfl ?_
            refine xg_step rfl rfl (fun k => rfl) ?_
            show XG _ _ 7 [some (.ref 107), some (zci (t)), some (zci (B (66 + 17 * t) 2)), some (zci ((-1))), some (zci (3)), some (zci (B (66 + 17 * t) 2))] _ _ _
            refine xg_step rfl rfl (fun k => rfl) ?_
            refine xg_step rfl rfl (fun k => rfl) ?_
            refine xg_step rfl rfl (fun k => rfl) ?_
            have e : (-1) = zSG B t := by simp only [zSG]; omega
            rw [← e] at hq hm1
            exact zm_135y hB hC ht (by omega) hvw hq hm1 hm2
          ·
            refine xg_step rfl rfl (fun k => rfl) ?_
            refine xg_step rfl rfl (fun k => rfl) ?_
            refine zg_gt rfl rfl (fun x y k => rfl) (by first | assumption | exact hA _ _ | exact hB _ _ | exact hC _ _ | exact zrg_max (by assumption) (hA _ _) | (constructor <;> omega)) (by first | assumption | exact hA _ _ | exact hB _ _ | exact hC _ _ | exact zrg_max (by assumption) (hA _ _) | (constructor <;> omega)) (fun hc => ?_) (fun hc => ?_)
            ·
              refine xg_step rfl rfl (fun k => rfl) ?_
              refine xg_step rfl rfl (fun k => rfl) ?_
              show XG _ _ 49 [some (.ref 107), some (zci (t)), some (zci ((-1))), some (zci (B (66 + 17 * t) 2)), some (zci (2)), some (zci (B (66 + 17 * t) 2))] _ _ _
              refine zg_inc (y := 3) rfl rfl (by decide) rfl ?_
              refine xg_step rfl rfl (fun k => rfl) ?_
              show XG _ _ 7 [some (.ref 107), some (zci (t)), some (zci ((-1))), some (zci (B (66 + 17 * t) 2)), some (zci (3)), some (zci (B (66 + 17 * t) 2))] _ _ _
              refine xg_step rfl rfl (fun k => rfl) ?_
              refine xg_step rfl rfl (fun k => rfl) ?_
              refine xg_step rfl rfl (fun k => rfl) ?_
              have e : B (66 + 17 * t) 2 = zSG B t := by simp only [zSG]; omega
              rw [← e] at hq hm1
              exact zm_135y hB hC ht (by omega) hvw hq hm1 hm2
            ·
              show XG _ _ 49 [some (.ref 107), some (zci (t)), some (zci ((-1))), some (zci (B (66 + 17 * t) 0)), some (zci (2)), some (zci (B (66 + 17 * t) 2))] _ _ _
              refine zg_inc (y := 3) rfl rfl (by decide) rfl ?_
              refine xg_step rfl rfl (fun k => rfl) ?_
              show XG _ _ 7 [some (.ref 107), some (zci (t)), some (zci ((-1))), some (zci (B (66 + 17 * t) 0)), some (zci (3)), some (zci (B (66 + 17 * t) 2))] _ _ _
              refine xg_step rfl rfl (fun k => rfl) ?_
              refine xg_step rfl rfl (fun k => rfl) ?_
              refine xg_step rfl rfl (fun k => rfl) ?_
              have e : B (66 + 17 * t) 0 = zSG B t := by simp only [zSG]; omega
              rw [← e] at hq hm1
              exact zm_135y hB hC ht (by omega) hvw hq hm1 hm2
    ·
      show XG _ _ 49 [some (.ref 107), some (zci (t)), some (zci ((-1))), some (zci ((-1))), some (zci (0)), some (zci (B (66 + 17 * t) 0))] _ _ _
      refine zg_inc (y := 1) rfl rfl (by decide) rfl ?_
      refine xg_step rfl rfl (fun k => rfl) ?_
      show XG _ _ 7 [some (.ref 107), some (zci (t)), some (zci ((-1))), some (zci ((-1))), some (zci (1)), some (zci (B (66 + 17 * t) 0))] _ _ _
      refine xg_step rfl rfl (fun k => rfl) ?_
      refine xg_step rfl rfl (fun k => rfl) ?_
      refine xg_step rfl rfl (fun k => rfl) ?_
      refine xg_step rfl rfl (fun k => rfl) ?_
      refine xg_get rfl rfl (zha (by decide)) zc_RefM rfl rfl ?_
      refine xg_step rfl rfl (fun k => rfl) ?_
      refine xg_step rfl rfl (fun k => rfl) ?_
      refine zg_mul rfl ?_
      refine xg_step rfl rfl (fun k => rfl) ?_
      refine zg_add rfl ?_
      refine zg_ald (.inl ⟨rfl, rfl⟩) (zha (by decide)) zc_r_asked (by decide) ⟨by omega, by omega⟩ (zvB (zk_asked (by omega) (by omega)) (by omega)) ?_
      refine xg_step rfl rfl (fun k => rfl) ?_
      refine xg_step rfl rfl (fun k => rfl) ?_
      refine xg_step rfl rfl (fun k => rfl) ?_
      refine zg_gt rfl rfl (fun x y k => rfl) (by first | assumption | exact hA _ _ | exact hB _ _ | exact hC _ _ | exact zrg_max (by assumption) (hA _ _) | (constructor <;> omega)) (by first | assumption | exact hA _ _ | exact hB _ _ | exact hC _ _ | exact zrg_max (by assumption) (hA _ _) | (constructor <;> omega)) (fun hc => ?_) (fun hc => ?_)
      ·
        refine xg_step rfl rfl (fun k => rfl) ?_
        refine xg_step rfl rfl (fun k => rfl) ?_
        refine xg_step rfl rfl (fun k => rfl) ?_
        refine xg_step rfl rfl (fun k => rfl) ?_
        refine xg_step rfl rfl (fun k => rfl) ?_
        show XG _ _ 49 [some (.ref 107), some (zci (t)), some (zci (B (66 + 17 * t) 1)), some (zci ((-1))), some (zci (1)), some (zci (B (66 + 17 * t) 1))] _ _ _
        refine zg_inc (y := 2) rfl rfl (by decide) rfl ?_
        refine xg_step rfl rfl (fun k => rfl) ?_
        show XG _ _ 7 [some (.ref 107), some (zci (t)), some (zci (B (66 + 17 * t) 1)), some (zci ((-1))), some (zci (2)), some (zci (B (66 + 17 * t) 1))] _ _ _
        refine xg_step rfl rfl (fun k => rfl) ?_
        refine xg_step rfl rfl (fun k => rfl) ?_
        refine xg_step rfl rfl (fun k => rfl) ?_
        refine xg_step rfl rfl (fun k => rfl) ?_
        refine xg_get rfl rfl (zha (by decide)) zc_RefM rfl rfl ?_
        refine xg_step rfl rfl (fun k => rfl) ?_
        refine xg_step rfl rfl (fun k => rfl) ?_
        refine zg_mul rfl ?_
        refine xg_step rfl rfl (fun k => rfl) ?_
        refine zg_add rfl ?_
        refine zg_ald (.inl ⟨rfl, rfl⟩) (zha (by decide)) zc_r_asked (by decide) ⟨by omega, by omega⟩ (zvB (zk_asked (by omega) (by omega)) (by omega)) ?_
        refine xg_step rfl rfl (fun k => rfl) ?_
        refine xg_step rfl rfl (fun k => rfl) ?_
        refine xg_step rfl rfl (fun k => rfl) ?_
        refine zg_gt rfl rfl (fun x y k => rfl) (by first | assumption | exact hA _ _ | exact hB _ _ | exact hC _ _ | exact zrg_max (by assumption) (hA _ _) | (constructor <;> omega)) (by first | assumption | exact hA _ _ | exact hB _ _ | exact hC _ _ | exact zrg_max (by assumption) (hA _ _) | (constructor <;> omega)) (fun hc => ?_) (fun hc => ?_)
        ·
          refine xg_step rfl rfl (fun k => rfl) ?_
          refine xg_step rfl rfl (fun k => rfl) ?_
          refine xg_step rfl rfl (fun k => rfl) ?_
          refine xg_step rfl rfl (fun k => rfl) ?_
          refine xg_step rfl rfl (fun k => rfl) ?_
          show XG _ _ 49 [some (.ref 107), some (zci (t)), some (zci (B (66 + 17 * t) 2)), some (zci (B (66 + 17 * t) 1)), some (zci (2)), some (zci (B (66 + 17 * t) 2))] _ _ _
          refine zg_inc (y := 3) rfl rfl (by decide) rfl ?_
          refine xg_step rfl rfl (fun k => rfl) ?_
          show XG _ _ 7 [some (.ref 107), some (zci (t)), some (zci (B (66 + 17 * t) 2)), some (zci (B (66 + 17 * t) 1)), some (zci (3)), some (zci (B (66 + 17 * t) 2))] _ _ _
          refine xg_step rfl rfl (fun k => rfl) ?_
          refine xg_step rfl rfl (fun k => rfl) ?_
          refine xg_step rfl rfl (fun k => rfl) ?_
          have e : B (66 + 17 * t) 1 = zSG B t := by simp only [zSG]; omega
          rw [← e] at hq hm1
          exact zm_135y hB hC ht (by omega) hvw hq hm1 hm2
        ·
          refine xg_step rfl rfl (fun k => rfl) ?_
          refine xg_step rfl rfl (fun k => rfl) ?_
          refine zg_gt rfl rfl (fun x y k => rfl) (by first | assumption | exact hA _ _ | exact hB _ _ | exact hC _ _ | exact zrg_max (by assumption) (hA _ _) | (constructor <;> omega)) (by first | assumption | exact hA _ _ | exact hB _ _ | exact hC _ _ | exact zrg_max (by assumption) (hA _ _) | (constructor <;> omega)) (fun hc => ?_) (fun hc => ?_)
          ·
            refine xg_step rfl rfl (fun k => rfl) ?_
            refine xg_step rfl rfl (fun k => rfl) ?_
            show XG _ _ 49 [some (.ref 107), some (zci (t)), some (zci (B (66 + 17 * t) 1)), some (zci (B (66 + 17 * t) 2)), some (zci (2)), some (zci (B (66 + 17 * t) 2))] _ _ _
            refine zg_inc (y := 3) rfl rfl (by decide) rfl ?_
            refine xg_step rfl rfl (fun k => rfl) ?_
            show XG _ _ 7 [some (.ref 107), some (zci (t)), some (zci (B (66 + 17 * t) 1)), some (zci (B (66 + 17 * t) 2)), some (zci (3)), some (zci (B (66 + 17 * t) 2))] _ _ _
            refine xg_step rfl rfl (fun k => rfl) ?_
            refine xg_step rfl rfl (fun k => rfl) ?_
            refine xg_step rfl rfl (fun k => rfl) ?_
            have e : B (66 + 17 * t) 2 = zSG B t := by simp only [zSG]; omega
            rw [← e] at hq hm1
            exact zm_135y hB hC ht (by omega) hvw hq hm1 hm2
          ·
            show XG _ _ 49 [some (.ref 107), some (zci (t)), some (zci (B (66 + 17 * t) 1)), some (zci ((-1))), some (zci (2)), some (zci (B (66 + 17 * t) 2))] _ _ _
            refine zg_inc (y := 3) rfl rfl (by decide) rfl ?_
            refine xg_step rfl rfl (fun k => rfl) ?_
            show XG _ _ 7 [some (.ref 107), some (zci (t)), some (zci (B (66 + 17 * t) 1)), some (zci ((-1))), some (zci (3)), some (zci (B (66 + 17 * t) 2))] _ _ _
            refine xg_step rfl rfl (fun k => rfl) ?_
            refine xg_step rfl rfl (fun k => rfl) ?_
            refine xg_step rfl rfl (fun k => rfl) ?_
            have e : (-1) = zSG B t := by simp only [zSG]; omega
            rw [← e] at hq hm1
            exact zm_135y hB hC ht (by omega) hvw hq hm1 hm2
      ·
        refine xg_step rfl rfl (fun k => rfl) ?_
        refine xg_step rfl rfl (fun k => rfl) ?_
        refine zg_gt rfl rfl (fun x y k => rfl) (by first | assumption | exact hA _ _ | exact hB _ _ | exact hC _ _ | exact zrg_max (by assumption) (hA _ _) | (constructor <;> omega)) (by first | assumption | exact hA _ _ | exact hB _ _ | exact hC _ _ | exact zrg_max (by assumption) (hA _ _) | (constructor <;> omega)) (fun hc => ?_) (fun hc => ?_)
        ·
          refine xg_step rfl rfl (fun k => rfl) ?_
          refine xg_step rfl rfl (fun k => rfl) ?_
          show XG _ _ 49 [some (.ref 107), some (zci (t)), some (zci ((-1))), some (zci (B (66 + 17 * t) 1)), some (zci (1)), some (zci (B (66 + 17 * t) 1))] _ _ _
          refine zg_inc (y := 2) rfl rfl (by decide) rfl ?_
          refine xg_step rfl rfl (fun k => rfl) ?_
          show XG _ _ 7 [some (.ref 107), some (zci (t)), some (zci ((-1))), some (zci (B (66 + 17 * t) 1)), some (zci (2)), some (zci (B (66 + 17 * t) 1))] _ _ _
          refine xg_step rfl rfl (fun k => rfl) ?_
          refine xg_step rfl rfl (fun k => rfl) ?_
          refine xg_step rfl rfl (fun k => rfl) ?_
          refine xg_step rfl rfl (fun k => rfl) ?_
          refine xg_get rfl rfl (zha (by decide)) zc_RefM rfl rfl ?_
          refine xg_step rfl rfl (fun k => rfl) ?_
          refine xg_step rfl rfl (fun k => rfl) ?_
          refine zg_mul rfl ?_
          refine xg_step rfl rfl (fun k => rfl) ?_
          refine zg_add rfl ?_
          refine zg_ald (.inl ⟨rfl, rfl⟩) (zha (by decide)) zc_r_asked (by decide) ⟨by omega, by omega⟩ (zvB (zk_asked (by omega) (by omega)) (by omega)) ?_
          refine xg_step rfl rfl (fun k => rfl) ?_
          refine xg_step rfl rfl (fun k => rfl) ?_
          refine xg_step rfl rfl (fun k => rfl) ?_
          refine zg_gt rfl rfl (fun x y k => rfl) (by first | assumption | exact hA _ _ | exact hB _ _ | exact hC _ _ | exact zrg_max (by assumption) (hA _ _) | (constructor <;> omega)) (by first | assumption | exact hA _ _ | exact hB _ _ | exact hC _ _ | exact zrg_max (by assumption) (hA _ _) | (constructor <;> omega)) (fun hc => ?_) (fun hc => ?_)
          ·
            refine xg_step rfl rfl (fun k => rfl) ?_
            refine xg_step rfl rfl (fun k => rfl) ?_
            refine xg_step rfl rfl (fun k => rfl) ?_
            refine xg_step rfl rfl (fun k => rfl) ?_
            refine xg_step rfl rfl (fun k => rfl) ?_
            show XG _ _ 49 [some (.ref 107), some (zci (t)), some (zci (B (66 + 17 * t) 2)), some (zci ((-1))), some (zci (2)), some (zci (B (66 + 17 * t) 2))] _ _ _
            refine zg_inc (y := 3) rfl rfl (by decide) rfl ?_
            refine xg_step rfl rfl (fun k => rfl) ?_
            show XG _ _ 7 [some (.ref 107), some (zci (t)), some (zci (B (66 + 17 * t) 2)), some (zci ((-1))), some (zci (3)), some (zci (B (66 + 17 * t) 2))] _ _ _
            refine xg_step rfl rfl (fun k => rfl) ?_
            refine xg_step rfl rfl (fun k => rfl) ?_
            refine xg_step rfl rfl (fun k => rfl) ?_
            have e : (-1) = zSG B t := by simp only [zSG]; omega
            rw [← e] at hq hm1
            exact zm_135y hB hC ht (by omega) hvw hq hm1 hm2
          ·
            refine xg_step rfl rfl (fun k => rfl) ?_
            refine xg_step rfl rfl (fun k => rfl) ?_
            refine zg_gt rfl rfl (fun x y k => rfl) (by first | assumption | exact hA _ _ | exact hB _ _ | exact hC _ _ | exact zrg_max (by assumption) (hA _ _) | (constructor <;> omega)) (by first | assumption | exact hA _ _ | exact hB _ _ | exact hC _ _ | exact zrg_max (by assumption) (hA _ _) | (constructor <;> omega)) (fun hc => ?_) (fun hc => ?_)
            ·
              refine xg_step rfl rfl (fun k => rfl) ?_
              refine xg_step rfl rfl (fun k => rfl) ?_
              show XG _ _ 49 [some (.ref 107), some (zci (t)), some (zci ((-1))), some (zci (B (66 + 17 * t) 2)), some (zci (2)), some (zci (B (66 + 17 * t) 2))] _ _ _
              refine zg_inc (y := 3) rfl rfl (by decide) rfl ?_
              refine xg_step rfl rfl (fun k => rfl) ?_
              show XG _ _ 7 [some (.ref 107), some (zci (t)), some (zci ((-1))), some (zci (B (66 + 17 * t) 2)), some (zci (3)), some (zci (B (66 + 17 * t) 2))] _ _ _
              refine xg_step rfl rfl (fun k => rfl) ?_
              refine xg_step rfl rfl (fun k => rfl) ?_
              refine xg_step rfl rfl (fun k => rfl) ?_
              have e : B (66 + 17 * t) 2 = zSG B t := by simp only [zSG]; omega
              rw [← e] at hq hm1
              exact zm_135y hB hC ht (by omega) hvw hq hm1 hm2
            ·
              show XG _ _ 49 [some (.ref 107), some (zci (t)), some (zci ((-1))), some (zci (B (66 + 17 * t) 1)), some (zci (2)), some (zci (B (66 + 17 * t) 2))] _ _ _
              refine zg_inc (y := 3) rfl rfl (by decide) rfl ?_
              refine xg_step rfl rfl (fun k => rfl) ?_
              show XG _ _ 7 [some (.ref 107), some (zci (t)), some (zci ((-1))), some (zci (B (66 + 17 * t) 1)), some (zci (3)), some (zci (B (66 + 17 * t) 2))] _ _ _
              refine xg_step rfl rfl (fun k => rfl) ?_
              refine xg_step rfl rfl (fun k => rfl) ?_
              refine xg_step rfl rfl (fun k => rfl) ?_
              have e : B (66 + 17 * t) 1 = zSG B t := by simp only [zSG]; omega
              rw [← e] at hq hm1
              exact zm_135y hB hC ht (by omega) hvw hq hm1 hm2
        ·
          show XG _ _ 49 [some (.ref 107), some (zci (t)), some (zci ((-1))), some (zci ((-1))), some (zci (1)), some (zci (B (66 + 17 * t) 1))] _ _ _
          refine zg_inc (y := 2) rfl rfl (by decide) rfl ?_
          refine xg_step rfl rfl (fun k => rfl) ?_
          show XG _ _ 7 [some (.ref 107), some (zci (t)), some (zci ((-1))), some (zci ((-1))), some (zci (2)), some (zci (B (66 + 17 * t) 1))] _ _ _
          refine xg_step rfl rfl (fun k => rfl) ?_
          refine xg_step rfl rfl (fun k => rfl) ?_
          refine xg_step rfl rfl (fun k => rfl) ?_
          refine xg_step rfl rfl (fun k => rfl) ?_
          refine xg_get rfl rfl (zha (by decide)) zc_RefM rfl rfl ?_
          refine xg_step rfl rfl (fun k => rfl) ?_
          refine xg_step rfl rfl (fun k => rfl) ?_
          refine zg_mul rfl ?_
          refine xg_step rfl rfl (fun k => rfl) ?_
          refine zg_add rfl ?_
          refine zg_ald (.inl ⟨rfl, rfl⟩) (zha (by decide)) zc_r_asked (by decide) ⟨by omega, by omega⟩ (zvB (zk_asked (by omega) (by omega)) (by omega)) ?_
          refine xg_step rfl rfl (fun k => rfl) ?_
          refine xg_step rfl rfl (fun k => rfl) ?_
          refine xg_step rfl rfl (fun k => rfl) ?_
          refine zg_gt rfl rfl (fun x y k => rfl) (by first | assumption | exact hA _ _ | exact hB _ _ | exact hC _ _ | exact zrg_max (by assumption) (hA _ _) | (constructor <;> omega)) (by first | assumption | exact hA _ _ | exact hB _ _ | exact hC _ _ | exact zrg_max (by assumption) (hA _ _) | (constructor <;> omega)) (fun hc => ?_) (fun hc => ?_)
          ·
            refine xg_step rfl rfl (fun k => rfl) ?_
            refine xg_step rfl rfl (fun k => rfl) ?_
            refine xg_step rfl rfl (fun k => rfl) ?_
            refine xg_step rfl rfl (fun k => rfl) ?_
            refine xg_step rfl rfl (fun k => rfl) ?_
            show XG _ _ 49 [some (.ref 107), some (zci (t)), some (zci (B (66 + 17 * t) 2)), some (zci ((-1))), some (zci (2)), some (zci (B (66 + 17 * t) 2))] _ _ _
            refine zg_inc (y := 3) rfl rfl (by decide) rfl ?_
            refine xg_step rfl rfl (fun k => rfl) ?_
            show XG _ _ 7 [some (.ref 107), some (zci (t)), some (zci (B (66 + 17 * t) 2)), some (zci ((-1))), some (zci (3)), some (zci (B (66 + 17 * t) 2))] _ _ _
            refine xg_step rfl rfl (fun k => rfl) ?_
            refine xg_step rfl rfl (fun k => rfl) ?_
            refine xg_step rfl rfl (fun k => rfl) ?_
            have e : (-1) = zSG B t := by simp only [zSG]; omega
            rw [← e] at hq hm1
            exact zm_135y hB hC ht (by omega) hvw hq hm1 hm2
          ·
            refine xg_step rfl rfl (fun k => rfl) ?_
            refine xg_step rfl rfl (fun k => rfl) ?_
            refine zg_gt rfl rfl (fun x y k => rfl) (by first | assumption | exact hA _ _ | exact hB _ _ | exact hC _ _ | exact zrg_max (by assumption) (hA _ _) | (constructor <;> omega)) (by first | assumption | exact hA _ _ | exact hB _ _ | exact hC _ _ | exact zrg_max (by assumption) (hA _ _) | (constructor <;> omega)) (fun hc => ?_) (fun hc => ?_)
            ·
              refine xg_step rfl rfl (fun k => rfl) ?_
              refine xg_step rfl rfl (fun k => rfl) ?_
              show XG _ _ 49 [some (.ref 107), some (zci (t)), some (zci ((-1))), some (zci (B (66 + 17 * t) 2)), some (zci (2)), some (zci (B (66 + 17 * t) 2))] _ _ _
              refine zg_inc (y := 3) rfl rfl (by decide) rfl ?_
              refine xg_step rfl rfl (fun k => rfl) ?_
              show XG _ _ 7 [some (.ref 107), some (zci (t)), some (zci ((-1))), some (zci (B (66 + 17 * t) 2)), some (zci (3)), some (zci (B (66 + 17 * t) 2))] _ _ _
              refine xg_step rfl rfl (fun k => rfl) ?_
              refine xg_step rfl rfl (fun k => rfl) ?_
              refine xg_step rfl rfl (fun k => rfl) ?_
              have e : B (66 + 17 * t) 2 = zSG B t := by simp only [zSG]; omega
              rw [← e] at hq hm1
              exact zm_135y hB hC ht (by omega) hvw hq hm1 hm2
            ·
              show XG _ _ 49 [some (.ref 107), some (zci (t)), some (zci ((-1))), some (zci ((-1))), some (zci (2)), some (zci (B (66 + 17 * t) 2))] _ _ _
              refine zg_inc (y := 3) rfl rfl (by decide) rfl ?_
              refine xg_step rfl rfl (fun k => rfl) ?_
              show XG _ _ 7 [some (.ref 107), some (zci (t)), some (zci ((-1))), some (zci ((-1))), some (zci (3)), some (zci (B (66 + 17 * t) 2))] _ _ _
              refine xg_step rfl rfl (fun k => rfl) ?_
              refine xg_step rfl rfl (fun k => rfl) ?_
              refine xg_step rfl rfl (fun k => rfl) ?_
              have e : (-1) = zSG B t := by simp only [zSG]; omega
              rw [← e] at hq hm1
              exact zm_135y hB hC ht (by omega) hvw hq hm1 hm2
set_option maxRecDepth 10000 in
theorem zo_136 {d : Nat} {A B C : ZM} (hB : zRg B) (hC : zRg C) {p : Int} (hp : zrg p) (h1 : 0 ≤ p ∧ p < 3) (h2 : B (56 + 17 * p) 9 = 0) (h3 : 0 ≤ B (56 + 17 * p) 7 ∧ B (56 + 17 * p) 7 < 30) {B2 C2 : ZM} {z : Int} (hmid : XR (d + 1) 135 [.ref 107, zci p] (zhp A (zmg (zup B (66 + 17 * p) p (max (B (66 + 17 * p) p) (B (56 + 17 * p) 7 + 1))) (zup C 107 0 0))) (some (zci z), zhp A (zmg B2 C2))) : XR (d + 2) 136 [.ref 107, zci (p)] (zhp A (zmg B C)) (some (zci (B (56 + 17 * p) 7 + 1)), zhp A (zmg B2 C2)) := by
  refine XR.of (Nat.le_of_ble_eq_true rfl) rfl ?_
  refine xg_step rfl rfl (fun k => rfl) ?_
  refine xg_step rfl rfl (fun k => rfl) ?_
  refine zg_csb rfl rfl (by decide) rfl rfl (Nat.le_of_ble_eq_true rfl) rfl (zq_130 hB hC (by first | assumption | exact hA _ _ | exact hB _ _ | exact hC _ _ | exact zrg_max (by assumption) (hA _ _) | (constructor <;> omega))) (fun hc => ?_) (fun hc => ?_)
  ·
    refine xg_step rfl rfl (fun k => rfl) ?_
    refine xg_step rfl rfl (fun k => rfl) ?_
    refine xg_step rfl rfl (fun k => rfl) ?_
    refine zg_cvi rfl rfl rfl (Nat.le_of_ble_eq_true rfl) (zha (by decide)) zc_RefM rfl rfl zq_132f ?_
    refine xg_step rfl rfl (fun k => rfl) ?_
    refine xg_step rfl rfl (fun k => rfl) ?_
    refine xg_get rfl rfl (zha (by decide)) zc_RefM rfl rfl ?_
    refine xg_step rfl rfl (fun k => rfl) ?_
    refine zg_ald (.inr ⟨rfl, rfl⟩) (zha (by decide)) zc_r_lied (by decide) ⟨by omega, by omega⟩ (zvB (zk_lied (by omega)) (by omega)) ?_
    refine zg_eq0 rfl rfl (fun x k => rfl) (by first | assumption | exact hA _ _ | exact hB _ _ | exact hC _ _ | exact zrg_max (by assumption) (hA _ _) | (constructor <;> omega)) (fun hc => ?_) (fun hc => ?_)
    ·
      refine xg_step rfl rfl (fun k => rfl) ?_
      refine xg_get rfl rfl (zha (by decide)) zc_RefM rfl rfl ?_
      refine xg_step rfl rfl (fun k => rfl) ?_
      refine zg_ald (.inl ⟨rfl, rfl⟩) (zha (by decide)) zc_r_view (by decide) ⟨by omega, by omega⟩ (zvB (zk_view (by omega)) (by omega)) ?_
      refine zg_bi rfl (by decide) ?_
      refine zg_eq rfl rfl (fun x y k => rfl) (by first | assumption | exact hA _ _ | exact hB _ _ | exact hC _ _ | exact zrg_max (by assumption) (hA _ _) | (constructor <;> omega)) (by first | assumption | exact hA _ _ | exact hB _ _ | exact hC _ _ | exact zrg_max (by assumption) (hA _ _) | (constructor <;> omega)) (fun hc => ?_) (fun hc => ?_)
      ·
        exact (by omega : False).elim
      ·
        refine xg_step rfl rfl (fun k => rfl) ?_
        refine xg_get rfl rfl (zha (by decide)) zc_RefM rfl rfl ?_
        refine xg_step rfl rfl (fun k => rfl) ?_
        refine zg_ald (.inl ⟨rfl, rfl⟩) (zha (by decide)) zc_r_view (by decide) ⟨by omega, by omega⟩ (zvB (zk_view (by omega)) (by omega)) ?_
        refine xg_step rfl rfl (fun k => rfl) ?_
        refine zg_add rfl ?_
        refine xg_step rfl rfl (fun k => rfl) ?_
        refine xg_step rfl rfl (fun k => rfl) ?_
        refine xg_get rfl rfl (zha (by decide)) zc_RefM rfl rfl ?_
        refine xg_step rfl rfl (fun k => rfl) ?_
        refine xg_step rfl rfl (fun k => rfl) ?_
        refine zg_mul rfl ?_
        refine xg_step rfl rfl (fun k => rfl) ?_
        refine zg_add rfl ?_
        refine zg_ald (.inl ⟨rfl, rfl⟩) (zha (by decide)) zc_r_asked (by decide) ⟨by omega, by omega⟩ (zvB (zk_asked (by omega) (by omega)) (by omega)) ?_
        refine xg_step rfl rfl (fun k => rfl) ?_
        refine zg_lt rfl rfl (fun x y k => rfl) (by first | assumption | exact hA _ _ | exact hB _ _ | exact hC _ _ | exact zrg_max (by assumption) (hA _ _) | (constructor <;> omega)) (by first | assumption | exact hA _ _ | exact hB _ _ | exact hC _ _ | exact zrg_max (by assumption) (hA _ _) | (constructor <;> omega)) (fun hc => ?_) (fun hc => ?_)
        ·
          refine xg_step rfl rfl (fun k => rfl) ?_
          refine xg_get rfl rfl (zha (by decide)) zc_RefM rfl rfl ?_
          refine xg_step rfl rfl (fun k => rfl) ?_
          refine xg_step rfl rfl (fun k => rfl) ?_
          refine zg_mul rfl ?_
          refine xg_step rfl rfl (fun k => rfl) ?_
          refine zg_add rfl ?_
          refine xg_step rfl rfl (fun k => rfl) ?_
          refine zg_ast (.inl ⟨rfl, rfl⟩) (zha (by decide)) zc_r_asked (by decide) ⟨by omega, by omega⟩ (zhwB (zwB (zk_asked (by omega) (by omega)) zw_r_asked (by omega))) ?_
          rw [show zup B (66 + 17 * p) p (B (56 + 17 * p) 7 + 1) = (zup B (66 + 17 * p) p (max (B (66 + 17 * p) p) (B (56 + 17 * p) 7 + 1))) by rw [show max (B (66 + 17 * p) p) (B (56 + 17 * p) 7 + 1) = B (56 + 17 * p) 7 + 1 by omega]]
          refine xg_step rfl rfl (fun k => rfl) ?_
          refine xg_step rfl rfl (fun k => rfl) ?_
          refine zg_cvi rfl rfl rfl (Nat.le_of_ble_eq_true rfl) (zha (by decide)) zc_RefM rfl rfl hmid ?_
          refine xg_step rfl rfl (fun k => rfl) ?_
          refine xg_step rfl rfl (fun k => rfl) ?_
          refine zg_iret rfl rfl zfitI ?_
          rfl
        ·
          have e0 : (zup B (66 + 17 * p) p (max (B (66 + 17 * p) p) (B (56 + 17 * p) 7 + 1))) = B := zup_self (by omega)
          rw [e0] at hmid
          refine xg_step rfl rfl (fun k => rfl) ?_
          refine xg_step rfl rfl (fun k => rfl) ?_
          refine zg_cvi rfl rfl rfl (Nat.le_of_ble_eq_true rfl) (zha (by decide)) zc_RefM rfl rfl hmid ?_
          refine xg_step rfl rfl (fun k => rfl) ?_
          refine xg_step rfl rfl (fun k => rfl) ?_
          refine zg_iret rfl rfl zfitI ?_
          rfl
    ·
      exact (by omega : False).elim
  ·
    refine xg_step rfl rfl (fun k => rfl) ?_
    refine xg_step rfl rfl (fun k => rfl) ?_
    refine xg_step rfl rfl (fun k => rfl) ?_
    refine xg_step rfl rfl (fun k => rfl) ?_
    refine zg_cvi rfl rfl rfl (Nat.le_of_ble_eq_true rfl) (zha (by decide)) zc_RefM rfl rfl zq_132t ?_
    refine xg_step rfl rfl (fun k => rfl) ?_
    refine xg_step rfl rfl (fun k => rfl) ?_
    refine zg_iret rfl rfl zfitI ?_
    first | rfl | exact (by omega : False).elim
set_option maxRecDepth 10000 in
theorem zo_137a {d : Nat} {A B C : ZM} (hB : zRg B) (hC : zRg C) {p q : Int} (hp : zrg p) (hq : zrg q) (h1 : ¬ ((0 ≤ p ∧ p < 3) ∧ (0 ≤ q ∧ q < 3))) : XR (d + 2) 137 [.ref 107, zci (p), zci (q)] (zhp A (zmg B C)) (some (zci 0), zhp A (zmg B (zup C 107 0 1))) := by
  refine XR.of (Nat.le_of_ble_eq_true rfl) rfl ?_
  refine xg_step rfl rfl (fun k => rfl) ?_
  refine xg_step rfl rfl (fun k => rfl) ?_
  refine zg_csb rfl rfl (by decide) rfl rfl (Nat.le_of_ble_eq_true rfl) rfl (zq_130 hB hC (by first | assumption | exact hA _ _ | exact hB _ _ | exact hC _ _ | exact zrg_max (by assumption) (hA _ _) | (constructor <;> omega))) (fun hc => ?_) (fun hc => ?_)
  ·
    refine xg_step rfl rfl (fun k => rfl) ?_
    refine xg_step rfl rfl (fun k => rfl) ?_
    refine zg_csb rfl rfl (by decide) rfl rfl (Nat.le_of_ble_eq_true rfl) rfl (zq_130 hB hC (by first | assumption | exact hA _ _ | exact hB _ _ | exact hC _ _ | exact zrg_max (by assumption) (hA _ _) | (constructor <;> omega))) (fun hc => ?_) (fun hc => ?_)
    ·
      refine xg_step rfl rfl (fun k => rfl) ?_
      refine xg_step rfl rfl (fun k => rfl) ?_
      refine xg_step rfl rfl (fun k => rfl) ?_
      refine zg_cvi rfl rfl rfl (Nat.le_of_ble_eq_true rfl) (zha (by decide)) zc_RefM rfl rfl zq_132f ?_
      refine xg_step rfl rfl (fun k => rfl) ?_
      refine xg_step rfl rfl (fun k => rfl) ?_
      refine xg_step rfl rfl (fun k => rfl) ?_
      refine xg_step rfl rfl (fun k => rfl) ?_
      refine zg_eq rfl rfl (fun x y k => rfl) (by first | assumption | exact hA _ _ | exact hB _ _ | exact hC _ _ | exact zrg_max (by assumption) (hA _ _) | (constructor <;> omega)) (by first | assumption | exact hA _ _ | exact hB _ _ | exact hC _ _ | exact zrg_max (by assumption) (hA _ _) | (constructor <;> omega)) (fun hc => ?_) (fun hc => ?_)
      ·
        refine xg_step rfl rfl (fun k => rfl) ?_
        refine xg_step rfl rfl (fun k => rfl) ?_
        refine xg_step rfl rfl (fun k => rfl) ?_
        refine zg_cvi rfl rfl rfl (Nat.le_of_ble_eq_true rfl) (zha (by decide)) zc_RefM rfl rfl zq_132t ?_
        rw [zup_zup]
        refine xg_step rfl rfl (fun k => rfl) ?_
        refine xg_step rfl rfl (fun k => rfl) ?_
        refine zg_iret rfl rfl zfitI ?_
        first | rfl | exact (by omega : False).elim
      ·
        refine xg_step rfl rfl (fun k => rfl) ?_
        refine xg_step rfl rfl (fun k => rfl) ?_
        refine zg_cvi rfl rfl rfl (Nat.le_of_ble_eq_true rfl) (zha (by decide)) zc_RefM rfl rfl zq_132f ?_
        rw [zup_zup]
        refine xg_step rfl rfl (fun k => rfl) ?_
        exact (by omega : False).elim
    ·
      refine xg_step rfl rfl (fun k => rfl) ?_
      refine xg_step rfl rfl (fun k => rfl) ?_
      refine xg_step rfl rfl (fun k => rfl) ?_
      refine xg_step rfl rfl (fun k => rfl) ?_
      refine zg_cvi rfl rfl rfl (Nat.le_of_ble_eq_true rfl) (zha (by decide)) zc_RefM rfl rfl zq_132t ?_
      refine xg_step rfl rfl (fun k => rfl) ?_
      refine xg_step rfl rfl (fun k => rfl) ?_
      refine zg_iret rfl rfl zfitI ?_
      first | rfl | exact (by omega : False).elim
  ·
    refine xg_step rfl rfl (fun k => rfl) ?_
    refine xg_step rfl rfl (fun k => rfl) ?_
    refine xg_step rfl rfl (fun k => rfl) ?_
    refine xg_step rfl rfl (fun k => rfl) ?_
    refine zg_cvi rfl rfl rfl (Nat.le_of_ble_eq_true rfl) (zha (by decide)) zc_RefM rfl rfl zq_132t ?_
    refine xg_step rfl rfl (fun k => rfl) ?_
    refine xg_step rfl rfl (fun k => rfl) ?_
    refine zg_iret rfl rfl zfitI ?_
    first | rfl | exact (by omega : False).elim
set_option maxRecDepth 10000 in
theorem zo_137b {d : Nat} {A B C : ZM} (hB : zRg B) (hC : zRg C) {p q : Int} (hp : zrg p) (hq : zrg q) (h1 : 0 ≤ p ∧ p < 3) (h2 : 0 ≤ q ∧ q < 3) (h4 : p = q) : XR (d + 2) 137 [.ref 107, zci (p), zci (q)] (zhp A (zmg B C)) (some (zci 0), zhp A (zmg B (zup C 107 0 2))) := by
  refine XR.of (Nat.le_of_ble_eq_true rfl) rfl ?_
  refine xg_step rfl rfl (fun k => rfl) ?_
  refine xg_step rfl rfl (fun k => rfl) ?_
  refine zg_csb rfl rfl (by decide) rfl rfl (Nat.le_of_ble_eq_true rfl) rfl (zq_130 hB hC (by first | assumption | exact hA _ _ | exact hB _ _ | exact hC _ _ | exact zrg_max (by assumption) (hA _ _) | (constructor <;> omega))) (fun hc => ?_) (fun hc => ?_)
  ·
    refine xg_step rfl rfl (fun k => rfl) ?_
    refine xg_step rfl rfl (fun k => rfl) ?_
    refine zg_csb rfl rfl (by decide) rfl rfl (Nat.le_of_ble_eq_true rfl) rfl (zq_130 hB hC (by first | assumption | exact hA _ _ | exact hB _ _ | exact hC _ _ | exact zrg_max (by assumption) (hA _ _) | (constructor <;> omega))) (fun hc => ?_) (fun hc => ?_)
    ·
      refine xg_step rfl rfl (fun k => rfl) ?_
      refine xg_step rfl rfl (fun k => rfl) ?_
      refine xg_step rfl rfl (fun k => rfl) ?_
      refine zg_cvi rfl rfl rfl (Nat.le_of_ble_eq_true rfl) (zha (by decide)) zc_RefM rfl rfl zq_132f ?_
      refine xg_step rfl rfl (fun k => rfl) ?_
      refine xg_step rfl rfl (fun k => rfl) ?_
      refine xg_step rfl rfl (fun k => rfl) ?_
      refine xg_step rfl rfl (fun k => rfl) ?_
      refine zg_eq rfl rfl (fun x y k => rfl) (by first | assumption | exact hA _ _ | exact hB _ _ | exact hC _ _ | exact zrg_max (by assumption) (hA _ _) | (constructor <;> omega)) (by first | assumption | exact hA _ _ | exact hB _ _ | exact hC _ _ | exact zrg_max (by assumption) (hA _ _) | (constructor <;> omega)) (fun hc => ?_) (fun hc => ?_)
      ·
        refine xg_step rfl rfl (fun k => rfl) ?_
        refine xg_step rfl rfl (fun k => rfl) ?_
        refine xg_step rfl rfl (fun k => rfl) ?_
        refine zg_cvi rfl rfl rfl (Nat.le_of_ble_eq_true rfl) (zha (by decide)) zc_RefM rfl rfl zq_132t ?_
        rw [zup_zup]
        refine xg_step rfl rfl (fun k => rfl) ?_
        refine xg_step rfl rfl (fun k => rfl) ?_
        refine zg_iret rfl rfl zfitI ?_
        first | rfl | exact (by omega : False).elim
      ·
        refine xg_step rfl rfl (fun k => rfl) ?_
        refine xg_step rfl rfl (fun k => rfl) ?_
        refine zg_cvi rfl rfl rfl (Nat.le_of_ble_eq_true rfl) (zha (by decide)) zc_RefM rfl rfl zq_132f ?_
        rw [zup_zup]
        refine xg_step rfl rfl (fun k => rfl) ?_
        exact (by omega : False).elim
    ·
      refine xg_step rfl rfl (fun k => rfl) ?_
      refine xg_step rfl rfl (fun k => rfl) ?_
      refine xg_step rfl rfl (fun k => rfl) ?_
      refine xg_step rfl rfl (fun k => rfl) ?_
      refine zg_cvi rfl rfl rfl (Nat.le_of_ble_eq_true rfl) (zha (by decide)) zc_RefM rfl rfl zq_132t ?_
      refine xg_step rfl rfl (fun k => rfl) ?_
      refine xg_step rfl rfl (fun k => rfl) ?_
      refine zg_iret rfl rfl zfitI ?_
      first | rfl | exact (by omega : False).elim
  ·
    refine xg_step rfl rfl (fun k => rfl) ?_
    refine xg_step rfl rfl (fun k => rfl) ?_
    refine xg_step rfl rfl (fun k => rfl) ?_
    refine xg_step rfl rfl (fun k => rfl) ?_
    refine zg_cvi rfl rfl rfl (Nat.le_of_ble_eq_true rfl) (zha (by decide)) zc_RefM rfl rfl zq_132t ?_
    refine xg_step rfl rfl (fun k => rfl) ?_
    refine xg_step rfl rfl (fun k => rfl) ?_
    refine zg_iret rfl rfl zfitI ?_
    first | rfl | exact (by omega : False).elim
set_option maxRecDepth 10000 in
theorem zo_137l {d : Nat} {A B C : ZM} (hB : zRg B) (hC : zRg C) {p q : Int} (hp : zrg p) (hq : zrg q) (h1 : 0 ≤ p ∧ p < 3) (h2 : 0 ≤ q ∧ q < 3) (h4 : ¬ p = q) (h5 : ¬ B (56 + 17 * q) 9 = 0 ∨ B (66 + 17 * p) p = -1) : XR (d + 2) 137 [.ref 107, zci (p), zci (q)] (zhp A (zmg B C)) (some (zci 0), zhp A (zmg B (zup C 107 0 0))) := by
  refine XR.of (Nat.le_of_ble_eq_true rfl) rfl ?_
  refine xg_step rfl rfl (fun k => rfl) ?_
  refine xg_step rfl rfl (fun k => rfl) ?_
  refine zg_csb rfl rfl (by decide) rfl rfl (Nat.le_of_ble_eq_true rfl) rfl (zq_130 hB hC (by first | assumption | exact hA _ _ | exact hB _ _ | exact hC _ _ | exact zrg_max (by assumption) (hA _ _) | (constructor <;> omega))) (fun hc => ?_) (fun hc => ?_)
  ·
    refine xg_step rfl rfl (fun k => rfl) ?_
    refine xg_step rfl rfl (fun k => rfl) ?_
    refine zg_csb rfl rfl (by decide) rfl rfl (Nat.le_of_ble_eq_true rfl) rfl (zq_130 hB hC (by first | assumption | exact hA _ _ | exact hB _ _ | exact hC _ _ | exact zrg_max (by assumption) (hA _ _) | (constructor <;> omega))) (fun hc => ?_) (fun hc => ?_)
    ·
      refine xg_step rfl rfl (fun k => rfl) ?_
      refine xg_step rfl rfl (fun k => rfl) ?_
      refine xg_step rfl rfl (fun k => rfl) ?_
      refine zg_cvi rfl rfl rfl (Nat.le_of_ble_eq_true rfl) (zha (by decide)) zc_RefM rfl rfl zq_132f ?_
      refine xg_step rfl rfl (fun k => rfl) ?_
      refine xg_step rfl rfl (fun k => rfl) ?_
      refine xg_step rfl rfl (fun k => rfl) ?_
      refine xg_step rfl rfl (fun k => rfl) ?_
      refine zg_eq rfl rfl (fun x y k => rfl) (by first | assumption | exact hA _ _ | exact hB _ _ | exact hC _ _ | exact zrg_max (by assumption) (hA _ _) | (constructor <;> omega)) (by first | assumption | exact hA _ _ | exact hB _ _ | exact hC _ _ | exact zrg_max (by assumption) (hA _ _) | (constructor <;> omega)) (fun hc => ?_) (fun hc => ?_)
      ·
        refine xg_step rfl rfl (fun k => rfl) ?_
        refine xg_step rfl rfl (fun k => rfl) ?_
        refine xg_step rfl rfl (fun k => rfl) ?_
        refine zg_cvi rfl rfl rfl (Nat.le_of_ble_eq_true rfl) (zha (by decide)) zc_RefM rfl rfl zq_132t ?_
        rw [zup_zup]
        refine xg_step rfl rfl (fun k => rfl) ?_
        refine xg_step rfl rfl (fun k => rfl) ?_
        refine zg_iret rfl rfl zfitI ?_
        first | rfl | exact (by omega : False).elim
      ·
        refine xg_step rfl rfl (fun k => rfl) ?_
        refine xg_step rfl rfl (fun k => rfl) ?_
        refine zg_cvi rfl rfl rfl (Nat.le_of_ble_eq_true rfl) (zha (by decide)) zc_RefM rfl rfl zq_132f ?_
        rw [zup_zup]
        refine xg_step rfl rfl (fun k => rfl) ?_
        refine xg_step rfl rfl (fun k => rfl) ?_
        refine xg_get rfl rfl (zha (by decide)) zc_RefM rfl rfl ?_
        refine xg_step rfl rfl (fun k => rfl) ?_
        refine xg_step rfl rfl (fun k => rfl) ?_
        refine zg_mul rfl ?_
        refine xg_step rfl rfl (fun k => rfl) ?_
        refine zg_add rfl ?_
        refine zg_ald (.inl ⟨rfl, rfl⟩) (zha (by decide)) zc_r_asked (by decide) ⟨by omega, by omega⟩ (zvB (zk_asked (by omega) (by omega)) (by omega)) ?_
        refine xg_step rfl rfl (fun k => rfl) ?_
        refine xg_step rfl rfl (fun k => rfl) ?_
        refine xg_get rfl rfl (zha (by decide)) zc_RefM rfl rfl ?_
        refine xg_step rfl rfl (fun k => rfl) ?_
        refine zg_ald (.inr ⟨rfl, rfl⟩) (zha (by decide)) zc_r_lied (by decide) ⟨by omega, by omega⟩ (zvB (zk_lied (by omega)) (by omega)) ?_
        refine zg_eq0 rfl rfl (fun x k => rfl) (by first | assumption | exact hA _ _ | exact hB _ _ | exact hC _ _ | exact zrg_max (by assumption) (hA _ _) | (constructor <;> omega)) (fun hc => ?_) (fun hc => ?_)
        ·
          refine xg_step rfl rfl (fun k => rfl) ?_
          refine xg_step rfl rfl (fun k => rfl) ?_
          refine zg_eq rfl rfl (fun x y k => rfl) (by first | assumption | exact hA _ _ | exact hB _ _ | exact hC _ _ | exact zrg_max (by assumption) (hA _ _) | (constructor <;> omega)) (by first | assumption | exact hA _ _ | exact hB _ _ | exact hC _ _ | exact zrg_max (by assumption) (hA _ _) | (constructor <;> omega)) (fun hc => ?_) (fun hc => ?_)
          ·
            refine xg_step rfl rfl (fun k => rfl) ?_
            refine zg_iret rfl rfl zfitI ?_
            first | rfl | exact (by omega : False).elim
          ·
            exact (by omega : False).elim
        ·
          refine xg_step rfl rfl (fun k => rfl) ?_
          refine zg_iret rfl rfl zfitI ?_
          first | rfl | exact (by omega : False).elim
    ·
      refine xg_step rfl rfl (fun k => rfl) ?_
      refine xg_step rfl rfl (fun k => rfl) ?_
      refine xg_step rfl rfl (fun k => rfl) ?_
      refine xg_step rfl rfl (fun k => rfl) ?_
      refine zg_cvi rfl rfl rfl (Nat.le_of_ble_eq_true rfl) (zha (by decide)) zc_RefM rfl rfl zq_132t ?_
      refine xg_step rfl rfl (fun k => rfl) ?_
      refine xg_step rfl rfl (fun k => rfl) ?_
      refine zg_iret rfl rfl zfitI ?_
      first | rfl | exact (by omega : False).elim
  ·
    refine xg_step rfl rfl (fun k => rfl) ?_
    refine xg_step rfl rfl (fun k => rfl) ?_
    refine xg_step rfl rfl (fun k => rfl) ?_
    refine xg_step rfl rfl (fun k => rfl) ?_
    refine zg_cvi rfl rfl rfl (Nat.le_of_ble_eq_true rfl) (zha (by decide)) zc_RefM rfl rfl zq_132t ?_
    refine xg_step rfl rfl (fun k => rfl) ?_
    refine xg_step rfl rfl (fun k => rfl) ?_
    refine zg_iret rfl rfl zfitI ?_
    first | rfl | exact (by omega : False).elim
set_option maxRecDepth 10000 in
theorem zo_137 {d : Nat} {A B C : ZM} (hB : zRg B) (hC : zRg C) {p q : Int} (hp : zrg p) (hq : zrg q) (h1 : 0 ≤ p ∧ p < 3) (h2 : 0 ≤ q ∧ q < 3) (h4 : ¬ p = q) (h5 : B (56 + 17 * q) 9 = 0) (h6 : ¬ B (66 + 17 * p) p = -1) {B2 C2 : ZM} {z : Int} (hz : z = 0 ∨ z = 1) (hmid : XR (d + 1) 135 [.ref 107, zci q] (zhp A (zmg (zup B (66 + 17 * q) p (max (B (66 + 17 * q) p) (B (66 + 17 * p) p))) (zup C 107 0 0))) (some (zci z), zhp A (zmg B2 C2))) : XR (d + 2) 137 [.ref 107, zci (p), zci (q)] (zhp A (zmg B C)) (some (zci z), zhp A (zmg B2 C2)) := by
  refine XR.of (Nat.le_of_ble_eq_true rfl) rfl ?_
  refine xg_step rfl rfl (fun k => rfl) ?_
  refine xg_step rfl rfl (fun k => rfl) ?_
  refine zg_csb rfl rfl (by decide) rfl rfl (Nat.le_of_ble_eq_true rfl) rfl (zq_130 hB hC (by first | assumption | exact hA _ _ | exact hB _ _ | exact hC _ _ | exact zrg_max (by assumption) (hA _ _) | (constructor <;> omega))) (fun hc => ?_) (fun hc => ?_)
  ·
    refine xg_step rfl rfl (fun k => rfl) ?_
    refine xg_step rfl rfl (fun k => rfl) ?_
    refine zg_csb rfl rfl (by decide) rfl rfl (Nat.le_of_ble_eq_true rfl) rfl (zq_130 hB hC (by first | assumption | exact hA _ _ | exact hB _ _ | exact hC _ _ | exact zrg_max (by assumption) (hA _ _) | (constructor <;> omega))) (fun hc => ?_) (fun hc => ?_)
    ·
      refine xg_step rfl rfl (fun k => rfl) ?_
      refine xg_step rfl rfl (fun k => rfl) ?_
      refine xg_step rfl rfl (fun k => rfl) ?_
      refine zg_cvi rfl rfl rfl (Nat.le_of_ble_eq_true rfl) (zha (by decide)) zc_RefM rfl rfl zq_132f ?_
      refine xg_step rfl rfl (fun k => rfl) ?_
      refine xg_step rfl rfl (fun k => rfl) ?_
      refine xg_step rfl rfl (fun k => rfl) ?_
      refine xg_step rfl rfl (fun k => rfl) ?_
      refine zg_eq rfl rfl (fun x y k => rfl) (by first | assumption | exact hA _ _ | exact hB _ _ | exact hC _ _ | exact zrg_max (by assumption) (hA _ _) | (constructor <;> omega)) (by first | assumption | exact hA _ _ | exact hB _ _ | exact hC _ _ | exact zrg_max (by assumption) (hA _ _) | (constructor <;> omega)) (fun hc => ?_) (fun hc => ?_)
      ·
        refine xg_step rfl rfl (fun k => rfl) ?_
        refine xg_step rfl rfl (fun k => rfl) ?_
        refine xg_step rfl rfl (fun k => rfl) ?_
        refine zg_cvi rfl rfl rfl (Nat.le_of_ble_eq_true rfl) (zha (by decide)) zc_RefM rfl rfl zq_132t ?_
        rw [zup_zup]
        refine xg_step rfl rfl (fun k => rfl) ?_
        refine xg_step rfl rfl (fun k => rfl) ?_
        refine zg_iret rfl rfl zfitI ?_
        first | rfl | exact (by omega : False).elim
      ·
        refine xg_step rfl rfl (fun k => rfl) ?_
        refine xg_step rfl rfl (fun k => rfl) ?_
        refine zg_cvi rfl rfl rfl (Nat.le_of_ble_eq_true rfl) (zha (by decide)) zc_RefM rfl rfl zq_132f ?_
        rw [zup_zup]
        refine xg_step rfl rfl (fun k => rfl) ?_
        refine xg_step rfl rfl (fun k => rfl) ?_
        refine xg_get rfl rfl (zha (by decide)) zc_RefM rfl rfl ?_
        refine xg_step rfl rfl (fun k => rfl) ?_
        refine xg_step rfl rfl (fun k => rfl) ?_
        refine zg_mul rfl ?_
        refine xg_step rfl rfl (fun k => rfl) ?_
        refine zg_add rfl ?_
        refine zg_ald (.inl ⟨rfl, rfl⟩) (zha (by decide)) zc_r_asked (by decide) ⟨by omega, by omega⟩ (zvB (zk_asked (by omega) (by omega)) (by omega)) ?_
        refine xg_step rfl rfl (fun k => rfl) ?_
        refine xg_step rfl rfl (fun k => rfl) ?_
        refine xg_get rfl rfl (zha (by decide)) zc_RefM rfl rfl ?_
        refine xg_step rfl rfl (fun k => rfl) ?_
        refine zg_ald (.inr ⟨rfl, rfl⟩) (zha (by decide)) zc_r_lied (by decide) ⟨by omega, by omega⟩ (zvB (zk_lied (by omega)) (by omega)) ?_
        refine zg_eq0 rfl rfl (fun x k => rfl) (by first | assumption | exact hA _ _ | exact hB _ _ | exact hC _ _ | exact zrg_max (by assumption) (hA _ _) | (constructor <;> omega)) (fun hc => ?_) (fun hc => ?_)
        ·
          refine xg_step rfl rfl (fun k => rfl) ?_
          refine xg_step rfl rfl (fun k => rfl) ?_
          refine zg_eq rfl rfl (fun x y k => rfl) (by first | assumption | exact hA _ _ | exact hB _ _ | exact hC _ _ | exact zrg_max (by assumption) (hA _ _) | (constructor <;> omega)) (by first | assumption | exact hA _ _ | exact hB _ _ | exact hC _ _ | exact zrg_max (by assumption) (hA _ _) | (constructor <;> omega)) (fun hc => ?_) (fun hc => ?_)
          ·
            exact (by omega : False).elim
          ·
            refine xg_step rfl rfl (fun k => rfl) ?_
            refine xg_get rfl rfl (zha (by decide)) zc_RefM rfl rfl ?_
            refine xg_step rfl rfl (fun k => rfl) ?_
            refine xg_step rfl rfl (fun k => rfl) ?_
            refine zg_mul rfl ?_
            refine xg_step rfl rfl (fun k => rfl) ?_
            refine zg_add rfl ?_
            refine zg_ald (.inl ⟨rfl, rfl⟩) (zha (by decide)) zc_r_asked (by decide) ⟨by omega, by omega⟩ (zvB (zk_asked (by omega) (by omega)) (by omega)) ?_
            refine xg_step rfl rfl (fun k => rfl) ?_
            refine zg_lt rfl rfl (fun x y k => rfl) (by first | assumption | exact hA _ _ | exact hB _ _ | exact hC _ _ | exact zrg_max (by assumption) (hA _ _) | (constructor <;> omega)) (by first | assumption | exact hA _ _ | exact hB _ _ | exact hC _ _ | exact zrg_max (by assumption) (hA _ _) | (constructor <;> omega)) (fun hc => ?_) (fun hc => ?_)
            ·
              refine xg_step rfl rfl (fun k => rfl) ?_
              refine xg_get rfl rfl (zha (by decide)) zc_RefM rfl rfl ?_
              refine xg_step rfl rfl (fun k => rfl) ?_
              refine xg_step rfl rfl (fun k => rfl) ?_
              refine zg_mul rfl ?_
              refine xg_step rfl rfl (fun k => rfl) ?_
              refine zg_add rfl ?_
              refine xg_step rfl rfl (fun k => rfl) ?_
              refine zg_ast (.inl ⟨rfl, rfl⟩) (zha (by decide)) zc_r_asked (by decide) ⟨by omega, by omega⟩ (zhwB (zwB (zk_asked (by omega) (by omega)) zw_r_asked (by omega))) ?_
              rw [show zup B (66 + 17 * q) p (B (66 + 17 * p) p) = (zup B (66 + 17 * q) p (max (B (66 + 17 * q) p) (B (66 + 17 * p) p))) by rw [show max (B (66 + 17 * q) p) (B (66 + 17 * p) p) = B (66 + 17 * p) p by omega]]
              have hzr : zrg z := ⟨by omega, by omega⟩
              refine xg_step rfl rfl (fun k => rfl) ?_
              refine xg_step rfl rfl (fun k => rfl) ?_
              refine zg_cvi rfl rfl rfl (Nat.le_of_ble_eq_true rfl) (zha (by decide)) zc_RefM rfl rfl hmid ?_
              refine zg_eq0 rfl rfl (fun x k => rfl) (by first | assumption | exact hA _ _ | exact hB _ _ | exact hC _ _ | exact zrg_max (by assumption) (hA _ _) | (constructor <;> omega)) (fun hc => ?_) (fun hc => ?_)
              ·
                refine xg_step rfl rfl (fun k => rfl) ?_
                refine zg_iret rfl rfl zfitI ?_
                (rw [show z = 0 by omega])
              ·
                refine xg_step rfl rfl (fun k => rfl) ?_
                refine xg_step rfl rfl (fun k => rfl) ?_
                refine zg_iret rfl rfl zfitI ?_
                (rw [show z = 1 by omega])
            ·
              have e0 : (zup B (66 + 17 * q) p (max (B (66 + 17 * q) p) (B (66 + 17 * p) p))) = B := zup_self (by omega)
              rw [e0] at hmid
              have hzr : zrg z := ⟨by omega, by omega⟩
              refine xg_step rfl rfl (fun k => rfl) ?_
              refine xg_step rfl rfl (fun k => rfl) ?_
              refine zg_cvi rfl rfl rfl (Nat.le_of_ble_eq_true rfl) (zha (by decide)) zc_RefM rfl rfl hmid ?_
              refine zg_eq0 rfl rfl (fun x k => rfl) (by first | assumption | exact hA _ _ | exact hB _ _ | exact hC _ _ | exact zrg_max (by assumption) (hA _ _) | (constructor <;> omega)) (fun hc => ?_) (fun hc => ?_)
              ·
                refine xg_step rfl rfl (fun k => rfl) ?_
                refine zg_iret rfl rfl zfitI ?_
                (rw [show z = 0 by omega])
              ·
                refine xg_step rfl rfl (fun k => rfl) ?_
                refine xg_step rfl rfl (fun k => rfl) ?_
                refine zg_iret rfl rfl zfitI ?_
                (rw [show z = 1 by omega])
        ·
          exact (by omega : False).elim
    ·
      refine xg_step rfl rfl (fun k => rfl) ?_
      refine xg_step rfl rfl (fun k => rfl) ?_
      refine xg_step rfl rfl (fun k => rfl) ?_
      refine xg_step rfl rfl (fun k => rfl) ?_
      refine zg_cvi rfl rfl rfl (Nat.le_of_ble_eq_true rfl) (zha (by decide)) zc_RefM rfl rfl zq_132t ?_
      refine xg_step rfl rfl (fun k => rfl) ?_
      refine xg_step rfl rfl (fun k => rfl) ?_
      refine zg_iret rfl rfl zfitI ?_
      first | rfl | exact (by omega : False).elim
  ·
    refine xg_step rfl rfl (fun k => rfl) ?_
    refine xg_step rfl rfl (fun k => rfl) ?_
    refine xg_step rfl rfl (fun k => rfl) ?_
    refine xg_step rfl rfl (fun k => rfl) ?_
    refine zg_cvi rfl rfl rfl (Nat.le_of_ble_eq_true rfl) (zha (by decide)) zc_RefM rfl rfl zq_132t ?_
    refine xg_step rfl rfl (fun k => rfl) ?_
    refine xg_step rfl rfl (fun k => rfl) ?_
    refine zg_iret rfl rfl zfitI ?_
    first | rfl | exact (by omega : False).elim
