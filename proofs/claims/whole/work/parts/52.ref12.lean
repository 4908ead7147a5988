/-! the reference's face, second half -/
set_option maxRecDepth 10000 in
theorem zo_139a {d : Nat} {A B C : ZM} (hB : zRg B) (hC : zRg C) {p : Int} (hp : zrg p) (h1 : ¬ (0 ≤ p ∧ p < 3)) : XR (d + 2) 139 [.ref 107, zci (p)] (zhp A (zmg B C)) (some (zci 0), zhp A (zmg B (zup C 107 0 1))) := by
  refine XR.of (Nat.le_of_ble_eq_true rfl) rfl ?_
  refine xg_step rfl rfl (fun k => rfl) ?_
  refine xg_step rfl rfl (fun k => rfl) ?_
  refine zg_csb rfl rfl (by decide) rfl rfl (Nat.le_of_ble_eq_true rfl) rfl (zq_130 hB hC (by first | assumption | exact hA _ _ | exact hB _ _ | exact hC _ _ | exact zrg_max (by assumption) (hA _ _) | (constructor <;> omega))) (fun hc => ?_) (fun hc => ?_)
  ·
    refine xg_step rfl rfl (fun k => rfl) ?_
    refine xg_step rfl rfl (fun k => rfl) ?_
    refine xg_step rfl rfl (fun k => rfl) ?_
    refine zg_cvi rfl rfl rfl (Nat.le_of_ble_eq_true rfl) (zha (by decide)) zc_RefM rfl rfl zq_132f ?_
    refine xg_step rfl rfl (fun k => rfl) ?_
    exact (by omega : False).elim
  ·
    refine xg_step rfl rfl (fun k => rfl) ?_
    refine xg_step rfl rfl (fun k => rfl) ?_
    refine xg_step rfl rfl (fun k => rfl) ?_
    refine xg_step rfl rfl (fun k => rfl) ?_
    refine zg_cvi rfl rfl rfl (Nat.le_of_ble_eq_true rfl) (zha (by decide)) zc_RefM rfl rfl zq_132t ?_
    refine xg_step rfl rfl (fun k => rfl) ?_
    refine xg_step rfl rfl (fun k => rfl) ?_
    refine zg_iret rfl rfl (zfitZ (by omega)) ?_
    first | rfl | exact (by omega : False).elim
set_option maxRecDepth 10000 in
theorem zo_139 {d : Nat} {A B C : ZM} (hB : zRg B) (hC : zRg C) {p : Int} (hp : zrg p) (h1 : 0 ≤ p ∧ p < 3)  : XR (d + 2) 139 [.ref 107, zci (p)] (zhp A (zmg B C)) (some (zci (zb2 (zLi B p))), zhp A (zmg (if zLi B p then zup B (56 + 17 * p) 9 1 else B) (zup C 107 0 0))) := by
  refine XR.of (Nat.le_of_ble_eq_true rfl) rfl ?_
  refine xg_step rfl rfl (fun k => rfl) ?_
  refine xg_step rfl rfl (fun k => rfl) ?_
  refine zg_csb rfl rfl (by decide) rfl rfl (Nat.le_of_ble_eq_true rfl) rfl (zq_130 hB hC (by first | assumption | exact hA _ _ | exact hB _ _ | exact hC _ _ | exact zrg_max (by assumption) (hA _ _) | (constructor <;> omega))) (fun hc => ?_) (fun hc => ?_)
  ·
    refine xg_step rfl rfl (fun k => rfl) ?_
    refine xg_step rfl rfl (fun k => rfl) ?_
    refine xg_step rfl rfl (fun k => rfl) ?_
    refine zg_cvi rfl rfl rfl (Nat.le_of_ble_eq_true rfl) (zha (by decide)) zc_RefM rfl rfl zq_132f ?_
    refine xg_step rfl rfl (fun k => rfl) ?_
    refine xg_step rfl rfl (fun k => rfl) ?_
    refine xg_step rfl rfl (fun k => rfl) ?_
    refine xg_step rfl rfl (fun k => rfl) ?_
    refine xg_step rfl rfl (fun k => rfl) ?_
    refine xg_step rfl rfl (fun k => rfl) ?_
    refine xg_step rfl rfl (fun k => rfl) ?_
    refine xg_step rfl rfl (fun k => rfl) ?_
    refine zg_eq rfl rfl (fun x y k => rfl) (by first | assumption | exact hA _ _ | exact hB _ _ | exact hC _ _ | exact zrg_max (by assumption) (hA _ _) | (constructor <;> omega)) (by first | assumption | exact hA _ _ | exact hB _ _ | exact hC _ _ | exact zrg_max (by assumption) (hA _ _) | (constructor <;> omega)) (fun hc => ?_) (fun hc => ?_)
    ·
      refine zg_inc (y := 1) rfl rfl (by decide) rfl ?_
      refine xg_step rfl rfl (fun k => rfl) ?_
      refine xg_step rfl rfl (fun k => rfl) ?_
      refine xg_step rfl rfl (fun k => rfl) ?_
      refine xg_step rfl rfl (fun k => rfl) ?_
      refine xg_step rfl rfl (fun k => rfl) ?_
      refine xg_step rfl rfl (fun k => rfl) ?_
      refine zg_eq rfl rfl (fun x y k => rfl) (by first | assumption | exact hA _ _ | exact hB _ _ | exact hC _ _ | exact zrg_max (by assumption) (hA _ _) | (constructor <;> omega)) (by first | assumption | exact hA _ _ | exact hB _ _ | exact hC _ _ | exact zrg_max (by assumption) (hA _ _) | (constructor <;> omega)) (fun hc => ?_) (fun hc => ?_)
      ·
        refine zg_inc (y := 2) rfl rfl (by decide) rfl ?_
        refine xg_step rfl rfl (fun k => rfl) ?_
        refine xg_step rfl rfl (fun k => rfl) ?_
        refine xg_step rfl rfl (fun k => rfl) ?_
        refine xg_step rfl rfl (fun k => rfl) ?_
        refine xg_step rfl rfl (fun k => rfl) ?_
        refine xg_step rfl rfl (fun k => rfl) ?_
        refine zg_eq rfl rfl (fun x y k => rfl) (by first | assumption | exact hA _ _ | exact hB _ _ | exact hC _ _ | exact zrg_max (by assumption) (hA _ _) | (constructor <;> omega)) (by first | assumption | exact hA _ _ | exact hB _ _ | exact hC _ _ | exact zrg_max (by assumption) (hA _ _) | (constructor <;> omega)) (fun hc => ?_) (fun hc => ?_)
        ·
          refine zg_inc (y := 3) rfl rfl (by decide) rfl ?_
          refine xg_step rfl rfl (fun k => rfl) ?_
          refine xg_step rfl rfl (fun k => rfl) ?_
          refine xg_step rfl rfl (fun k => rfl) ?_
          refine xg_step rfl rfl (fun k => rfl) ?_
          refine xg_step rfl rfl (fun k => rfl) ?_
          refine xg_get rfl rfl (zha (by decide)) zc_RefM rfl rfl ?_
          refine xg_step rfl rfl (fun k => rfl) ?_
          refine xg_step rfl rfl (fun k => rfl) ?_
          refine zg_ast (.inr ⟨rfl, rfl, by omega⟩) (zha (by decide)) zc_r_lied (by decide) ⟨by omega, by omega⟩ (zhwB (zwB (zk_lied (by omega)) zw_r_lied (by omega))) ?_
          refine xg_step rfl rfl (fun k => rfl) ?_
          refine zg_iret rfl rfl (zfitZ (by omega)) ?_
          first | exact (by omega : False).elim | rw [zb2_t (by simp only [zLi]; omega), if_pos (by simp only [zLi]; omega)]
        ·
          refine xg_step rfl rfl (fun k => rfl) ?_
          refine xg_get rfl rfl (zha (by decide)) zc_RefM rfl rfl ?_
          refine xg_step rfl rfl (fun k => rfl) ?_
          refine zg_ald (.inr ⟨rfl, rfl⟩) (zha (by decide)) zc_r_lied (by decide) ⟨by omega, by omega⟩ (zvB (zk_lied (by omega)) (by omega)) ?_
          refine zg_eq0 rfl rfl (fun x k => rfl) (by first | assumption | exact hA _ _ | exact hB _ _ | exact hC _ _ | exact zrg_max (by assumption) (hA _ _) | (constructor <;> omega)) (fun hc => ?_) (fun hc => ?_)
          ·
            refine zg_inc (y := 3) rfl rfl (by decide) rfl ?_
            refine xg_step rfl rfl (fun k => rfl) ?_
            refine xg_step rfl rfl (fun k => rfl) ?_
            refine xg_step rfl rfl (fun k => rfl) ?_
            refine xg_step rfl rfl (fun k => rfl) ?_
            refine xg_step rfl rfl (fun k => rfl) ?_
            refine xg_get rfl rfl (zha (by decide)) zc_RefM rfl rfl ?_
            refine xg_step rfl rfl (fun k => rfl) ?_
            refine xg_step rfl rfl (fun k => rfl) ?_
            refine zg_ast (.inr ⟨rfl, rfl, by omega⟩) (zha (by decide)) zc_r_lied (by decide) ⟨by omega, by omega⟩ (zhwB (zwB (zk_lied (by omega)) zw_r_lied (by omega))) ?_
            refine xg_step rfl rfl (fun k => rfl) ?_
            refine zg_iret rfl rfl (zfitZ (by omega)) ?_
            first | exact (by omega : False).elim | rw [zb2_t (by simp only [zLi]; omega), if_pos (by simp only [zLi]; omega)]
          ·
            refine xg_step rfl rfl (fun k => rfl) ?_
            refine zg_iret rfl rfl (zfitZ (by omega)) ?_
            first | exact (by omega : False).elim | rw [zb2_f (by simp only [zLi]; omega), if_neg (by simp only [zLi]; omega)]
      ·
        refine xg_step rfl rfl (fun k => rfl) ?_
        refine xg_get rfl rfl (zha (by decide)) zc_RefM rfl rfl ?_
        refine xg_step rfl rfl (fun k => rfl) ?_
        refine zg_ald (.inr ⟨rfl, rfl⟩) (zha (by decide)) zc_r_lied (by decide) ⟨by omega, by omega⟩ (zvB (zk_lied (by omega)) (by omega)) ?_
        refine zg_eq0 rfl rfl (fun x k => rfl) (by first | assumption | exact hA _ _ | exact hB _ _ | exact hC _ _ | exact zrg_max (by assumption) (hA _ _) | (constructor <;> omega)) (fun hc => ?_) (fun hc => ?_)
        ·
          refine zg_inc (y := 2) rfl rfl (by decide) rfl ?_
          refine xg_step rfl rfl (fun k => rfl) ?_
          refine xg_step rfl rfl (fun k => rfl) ?_
          refine xg_step rfl rfl (fun k => rfl) ?_
          refine xg_step rfl rfl (fun k => rfl) ?_
          refine xg_step rfl rfl (fun k => rfl) ?_
          refine xg_step rfl rfl (fun k => rfl) ?_
          refine zg_eq rfl rfl (fun x y k => rfl) (by first | assumption | exact hA _ _ | exact hB _ _ | exact hC _ _ | exact zrg_max (by assumption) (hA _ _) | (constructor <;> omega)) (by first | assumption | exact hA _ _ | exact hB _ _ | exact hC _ _ | exact zrg_max (by assumption) (hA _ _) | (constructor <;> omega)) (fun hc => ?_) (fun hc => ?_)
          ·
            refine zg_inc (y := 3) rfl rfl (by decide) rfl ?_
            refine xg_step rfl rfl (fun k => rfl) ?_
            refine xg_step rfl rfl (fun k => rfl) ?_
            refine xg_step rfl rfl (fun k => rfl) ?_
            refine xg_step rfl rfl (fun k => rfl) ?_
            refine xg_step rfl rfl (fun k => rfl) ?_
            refine xg_get rfl rfl (zha (by decide)) zc_RefM rfl rfl ?_
            refine xg_step rfl rfl (fun k => rfl) ?_
            refine xg_step rfl rfl (fun k => rfl) ?_
            refine zg_ast (.inr ⟨rfl, rfl, by omega⟩) (zha (by decide)) zc_r_lied (by decide) ⟨by omega, by omega⟩ (zhwB (zwB (zk_lied (by omega)) zw_r_lied (by omega))) ?_
            refine xg_step rfl rfl (fun k => rfl) ?_
            refine zg_iret rfl rfl (zfitZ (by omega)) ?_
            first | exact (by omega : False).elim | rw [zb2_t (by simp only [zLi]; omega), if_pos (by simp only [zLi]; omega)]
          ·
            refine xg_step rfl rfl (fun k => rfl) ?_
            refine xg_get rfl rfl (zha (by decide)) zc_RefM rfl rfl ?_
            refine xg_step rfl rfl (fun k => rfl) ?_
            refine zg_ald (.inr ⟨rfl, rfl⟩) (zha (by decide)) zc_r_lied (by decide) ⟨by omega, by omega⟩ (zvB (zk_lied (by omega)) (by omega)) ?_
            refine zg_eq0 rfl rfl (fun x k => rfl) (by first | assumption | exact hA _ _ | exact hB _ _ | exact hC _ _ | exact zrg_max (by assumption) (hA _ _) | (constructor <;> omega)) (fun hc => ?_) (fun hc => ?_)
            ·
              refine zg_inc (y := 3) rfl rfl (by decide) rfl ?_
              refine xg_step rfl rfl (fun k => rfl) ?_
              refine xg_step rfl rfl (fun k => rfl) ?_
              refine xg_step rfl rfl (fun k => rfl) ?_
              refine xg_step rfl rfl (fun k => rfl) ?_
              refine xg_step rfl rfl (fun k => rfl) ?_
              refine xg_get rfl rfl (zha (by decide)) zc_RefM rfl rfl ?_
              refine xg_step rfl rfl (fun k => rfl) ?_
              refine xg_step rfl rfl (fun k => rfl) ?_
              refine zg_ast (.inr ⟨rfl, rfl, by omega⟩) (zha (by decide)) zc_r_lied (by decide) ⟨by omega, by omega⟩ (zhwB (zwB (zk_lied (by omega)) zw_r_lied (by omega))) ?_
              refine xg_step rfl rfl (fun k => rfl) ?_
              refine zg_iret rfl rfl (zfitZ (by omega)) ?_
              first | exact (by omega : False).elim | rw [zb2_t (by simp only [zLi]; omega), if_pos (by simp only [zLi]; omega)]
            ·
              refine xg_step rfl rfl (fun k => rfl) ?_
              refine zg_iret rfl rfl (zfitZ (by omega)) ?_
              first | exact (by omega : False).elim | rw [zb2_f (by simp only [zLi]; omega), if_neg (by simp only [zLi]; omega)]
        ·
          refine xg_step rfl rfl (fun k => rfl) ?_
          refine zg_iret rfl rfl (zfitZ (by omega)) ?_
          first | exact (by omega : False).elim | rw [zb2_f (by simp only [zLi]; omega), if_neg (by simp only [zLi]; omega)]
    ·
      refine xg_step rfl rfl (fun k => rfl) ?_
      refine xg_get rfl rfl (zha (by decide)) zc_RefM rfl rfl ?_
      refine xg_step rfl rfl (fun k => rfl) ?_
      refine zg_ald (.inr ⟨rfl, rfl⟩) (zha (by decide)) zc_r_lied (by decide) ⟨by omega, by omega⟩ (zvB (zk_lied (by omega)) (by omega)) ?_
      refine zg_eq0 rfl rfl (fun x k => rfl) (by first | assumption | exact hA _ _ | exact hB _ _ | exact hC _ _ | exact zrg_max (by assumption) (hA _ _) | (constructor <;> omega)) (fun hc => ?_) (fun hc => ?_)
      ·
        refine zg_inc (y := 1) rfl rfl (by decide) rfl ?_
        refine xg_step rfl rfl (fun k => rfl) ?_
        refine xg_step rfl rfl (fun k => rfl) ?_
        refine xg_step rfl rfl (fun k => rfl) ?_
        refine xg_step rfl rfl (fun k => rfl) ?_
        refine xg_step rfl rfl (fun k => rfl) ?_
        refine xg_step rfl rfl (fun k => rfl) ?_
        refine zg_eq rfl rfl (fun x y k => rfl) (by first | assumption | exact hA _ _ | exact hB _ _ | exact hC _ _ | exact zrg_max (by assumption) (hA _ _) | (constructor <;> omega)) (by first | assumption | exact hA _ _ | exact hB _ _ | exact hC _ _ | exact zrg_max (by assumption) (hA _ _) | (constructor <;> omega)) (fun hc => ?_) (fun hc => ?_)
        ·
          refine zg_inc (y := 2) rfl rfl (by decide) rfl ?_
          refine xg_step rfl rfl (fun k => rfl) ?_
          refine xg_step rfl rfl (fun k => rfl) ?_
          refine xg_step rfl rfl (fun k => rfl) ?_
          refine xg_step rfl rfl (fun k => rfl) ?_
          refine xg_step rfl rfl (fun k => rfl) ?_
          refine xg_step rfl rfl (fun k => rfl) ?_
          refine zg_eq rfl rfl (fun x y k => rfl) (by first | assumption | exact hA _ _ | exact hB _ _ | exact hC _ _ | exact zrg_max (by assumption) (hA _ _) | (constructor <;> omega)) (by first | assumption | exact hA _ _ | exact hB _ _ | exact hC _ _ | exact zrg_max (by assumption) (hA _ _) | (constructor <;> omega)) (fun hc => ?_) (fun hc => ?_)
          ·
            refine zg_inc (y := 3) rfl rfl (by decide) rfl ?_
            refine xg_step rfl rfl (fun k => rfl) ?_
            refine xg_step rfl rfl (fun k => rfl) ?_
            refine xg_step rfl rfl (fun k => rfl) ?_
            refine xg_step rfl rfl (fun k => rfl) ?_
            refine xg_step rfl rfl (fun k => rfl) ?_
            refine xg_get rfl rfl (zha (by decide)) zc_RefM rfl rfl ?_
            refine xg_step rfl rfl (fun k => rfl) ?_
            refine xg_step rfl rfl (fun k => rfl) ?_
            refine zg_ast (.inr ⟨rfl, rfl, by omega⟩) (zha (by decide)) zc_r_lied (by decide) ⟨by omega, by omega⟩ (zhwB (zwB (zk_lied (by omega)) zw_r_lied (by omega))) ?_
            refine xg_step rfl rfl (fun k => rfl) ?_
            refine zg_iret rfl rfl (zfitZ (by omega)) ?_
            first | exact (by omega : False).elim | rw [zb2_t (by simp only [zLi]; omega), if_pos (by simp only [zLi]; omega)]
          ·
            refine xg_step rfl rfl (fun k => rfl) ?_
            refine xg_get rfl rfl (zha (by decide)) zc_RefM rfl rfl ?_
            refine xg_step rfl rfl (fun k => rfl) ?_
            refine zg_ald (.inr ⟨rfl, rfl⟩) (zha (by decide)) zc_r_lied (by decide) ⟨by omega, by omega⟩ (zvB (zk_lied (by omega)) (by omega)) ?_
            refine zg_eq0 rfl rfl (fun x k => rfl) (by first | assumption | exact hA _ _ | exact hB _ _ | exact hC _ _ | exact zrg_max (by assumption) (hA _ _) | (constructor <;> omega)) (fun hc => ?_) (fun hc => ?_)
            ·
              refine zg_inc (y := 3) rfl rfl (by decide) rfl ?_
              refine xg_step rfl rfl (fun k => rfl) ?_
              refine xg_step rfl rfl (fun k => rfl) ?_
              refine xg_step rfl rfl (fun k => rfl) ?_
              refine xg_step rfl rfl (fun k => rfl) ?_
              refine xg_step rfl rfl (fun k => rfl) ?_
              refine xg_get rfl rfl (zha (by decide)) zc_RefM rfl rfl ?_
              refine xg_step rfl rfl (fun k => rfl) ?_
              refine xg_step rfl rfl (fun k => rfl) ?_
              refine zg_ast (.inr ⟨rfl, rfl, by omega⟩) (zha (by decide)) zc_r_lied (by decide) ⟨by omega, by omega⟩ (zhwB (zwB (zk_lied (by omega)) zw_r_lied (by omega))) ?_
              refine xg_step rfl rfl (fun k => rfl) ?_
              refine zg_iret rfl rfl (zfitZ (by omega)) ?_
              first | exact (by omega : False).elim | rw [zb2_t (by simp only [zLi]; omega), if_pos (by simp only [zLi]; omega)]
            ·
              refine xg_step rfl rfl (fun k => rfl) ?_
              refine zg_iret rfl rfl (zfitZ (by omega)) ?_
              first | exact (by omega : False).elim | rw [zb2_f (by simp only [zLi]; omega), if_neg (by simp only [zLi]; omega)]
        ·
          refine xg_step rfl rfl (fun k => rfl) ?_
          refine xg_get rfl rfl (zha (by decide)) zc_RefM rfl rfl ?_
          refine xg_step rfl rfl (fun k => rfl) ?_
          refine zg_ald (.inr ⟨rfl, rfl⟩) (zha (by decide)) zc_r_lied (by decide) ⟨by omega, by omega⟩ (zvB (zk_lied (by omega)) (by omega)) ?_
          refine zg_eq0 rfl rfl (fun x k => rfl) (by first | assumption | exact hA _ _ | exact hB _ _ | exact hC _ _ | exact zrg_max (by assumption) (hA _ _) | (constructor <;> omega)) (fun hc => ?_) (fun hc => ?_)
          ·
            refine zg_inc (y := 2) rfl rfl (by decide) rfl ?_
            refine xg_step rfl rfl (fun k => rfl) ?_
            refine xg_step rfl rfl (fun k => rfl) ?_
            refine xg_step rfl rfl (fun k => rfl) ?_
            refine xg_step rfl rfl (fun k => rfl) ?_
            refine xg_step rfl rfl (fun k => rfl) ?_
            refine xg_step rfl rfl (fun k => rfl) ?_
            refine zg_eq rfl rfl (fun x y k => rfl) (by first | assumption | exact hA _ _ | exact hB _ _ | exact hC _ _ | exact zrg_max (by assumption) (hA _ _) | (constructor <;> omega)) (by first | assumption | exact hA _ _ | exact hB _ _ | exact hC _ _ | exact zrg_max (by assumption) (hA _ _) | (constructor <;> omega)) (fun hc => ?_) (fun hc => ?_)
            ·
              refine zg_inc (y := 3) rfl rfl (by decide) rfl ?_
              refine xg_step rfl rfl (fun k => rfl) ?_
              refine xg_step rfl rfl (fun k => rfl) ?_
              refine xg_step rfl rfl (fun k => rfl) ?_
              refine xg_step rfl rfl (fun k => rfl) ?_
              refine xg_step rfl rfl (fun k => rfl) ?_
              refine xg_get rfl rfl (zha (by decide)) zc_RefM rfl rfl ?_
              refine xg_step rfl rfl (fun k => rfl) ?_
              refine xg_step rfl rfl (fun k => rfl) ?_
              refine zg_ast (.inr ⟨rfl, rfl, by omega⟩) (zha (by decide)) zc_r_lied (by decide) ⟨by omega, by omega⟩ (zhwB (zwB (zk_lied (by omega)) zw_r_lied (by omega))) ?_
              refine xg_step rfl rfl (fun k => rfl) ?_
              refine zg_iret rfl rfl (zfitZ (by omega)) ?_
              first | exact (by omega : False).elim | rw [zb2_t (by simp only [zLi]; omega), if_pos (by simp only [zLi]; omega)]
            ·
              refine xg_step rfl rfl (fun k => rfl) ?_
              refine xg_get rfl rfl (zha (by decide)) zc_RefM rfl rfl ?_
              refine xg_step rfl rfl (fun k => rfl) ?_
              refine zg_ald (.inr ⟨rfl, rfl⟩) (zha (by decide)) zc_r_lied (by decide) ⟨by omega, by omega⟩ (zvB (zk_lied (by omega)) (by omega)) ?_
              refine zg_eq0 rfl rfl (fun x k => rfl) (by first | assumption | exact hA _ _ | exact hB _ _ | exact hC _ _ | exact zrg_max (by assumption) (hA _ _) | (constructor <;> omega)) (fun hc => ?_) (fun hc => ?_)
              ·
                refine zg_inc (y := 3) rfl rfl (by decide) rfl ?_
                refine xg_step rfl rfl (fun k => rfl) ?_
                refine xg_step rfl rfl (fun k => rfl) ?_
                refine xg_step rfl rfl (fun k => rfl) ?_
                refine xg_step rfl rfl (fun k => rfl) ?_
                refine xg_step rfl rfl (fun k => rfl) ?_
                refine xg_get rfl rfl (zha (by decide)) zc_RefM rfl rfl ?_
                refine xg_step rfl rfl (fun k => rfl) ?_
                refine xg_step rfl rfl (fun k => rfl) ?_
                refine zg_ast (.inr ⟨rfl, rfl, by omega⟩) (zha (by decide)) zc_r_lied (by decide) ⟨by omega, by omega⟩ (zhwB (zwB (zk_lied (by omega)) zw_r_lied (by omega))) ?_
                refine xg_step rfl rfl (fun k => rfl) ?_
                refine zg_iret rfl rfl (zfitZ (by omega)) ?_
                first | exact (by omega : False).elim | rw [zb2_t (by simp only [zLi]; omega), if_pos (by simp only [zLi]; omega)]
              ·
                refine xg_step rfl rfl (fun k => rfl) ?_
                refine zg_iret rfl rfl (zfitZ (by omega)) ?_
                first | exact (by omega : False).elim | rw [zb2_f (by simp only [zLi]; omega), if_neg (by simp only [zLi]; omega)]
          ·
            refine xg_step rfl rfl (fun k => rfl) ?_
            refine zg_iret rfl rfl (zfitZ (by omega)) ?_
            first | exact (by omega : False).elim | rw [zb2_f (by simp only [zLi]; omega), if_neg (by simp only [zLi]; omega)]
      ·
        refine xg_step rfl rfl (fun k => rfl) ?_
        refine zg_iret rfl rfl (zfitZ (by omega)) ?_
        first | exact (by omega : False).elim | rw [zb2_f (by simp only [zLi]; omega), if_neg (by simp only [zLi]; omega)]
  ·
    refine xg_step rfl rfl (fun k => rfl) ?_
    refine xg_step rfl rfl (fun k => rfl) ?_
    refine xg_step rfl rfl (fun k => rfl) ?_
    refine xg_step rfl rfl (fun k => rfl) ?_
    refine zg_cvi rfl rfl rfl (Nat.le_of_ble_eq_true rfl) (zha (by decide)) zc_RefM rfl rfl zq_132t ?_
    refine xg_step rfl rfl (fun k => rfl) ?_
    refine xg_step rfl rfl (fun k => rfl) ?_
    refine zg_iret rfl rfl (zfitZ (by omega)) ?_
    first | exact (by omega : False).elim | rw [zb2_f (by simp only [zLi]; omega), if_neg (by simp only [zLi]; omega)]
set_option maxRecDepth 10000 in
theorem zo_141a {d : Nat} {A B C : ZM} (hB : zRg B) (hC : zRg C) {p : Int} (hp : zrg p) {w : Int} (hw : zrg w) (h1 : ¬ (0 ≤ p ∧ p < 3)) : XR (d + 2) 141 [.ref 107, zci (p), zci (w)] (zhp A (zmg B C)) (none, zhp A (zmg B (zup C 107 0 1))) := by
  refine XR.of (Nat.le_of_ble_eq_true rfl) rfl ?_
  refine xg_step rfl rfl (fun k => rfl) ?_
  refine xg_step rfl rfl (fun k => rfl) ?_
  refine zg_csb rfl rfl (by decide) rfl rfl (Nat.le_of_ble_eq_true rfl) rfl (zq_130 hB hC (by first | assumption | exact hA _ _ | exact hB _ _ | exact hC _ _ | exact zrg_max (by assumption) (hA _ _) | (constructor <;> omega))) (fun hc => ?_) (fun hc => ?_)
  ·
    refine xg_step rfl rfl (fun k => rfl) ?_
    refine xg_step rfl rfl (fun k => rfl) ?_
    refine xg_step rfl rfl (fun k => rfl) ?_
    refine zg_cvi rfl rfl rfl (Nat.le_of_ble_eq_true rfl) (zha (by decide)) zc_RefM rfl rfl zq_132f ?_
    refine xg_step rfl rfl (fun k => rfl) ?_
    refine xg_step rfl rfl (fun k => rfl) ?_
    refine xg_step rfl rfl (fun k => rfl) ?_
    refine xg_get rfl rfl (zha (by decide)) zc_RefM rfl rfl ?_
    refine xg_step rfl rfl (fun k => rfl) ?_
    refine zg_ald (.inr ⟨rfl, rfl⟩) (zha (by decide)) zc_r_lied (by decide) ⟨by omega, by omega⟩ (zvB (zk_lied (by omega)) (by omega)) ?_
    refine zg_eq0 rfl rfl (fun x k => rfl) (by first | assumption | exact hA _ _ | exact hB _ _ | exact hC _ _ | exact zrg_max (by assumption) (hA _ _) | (constructor <;> omega)) (fun hc => ?_) (fun hc => ?_)
    ·
      refine xg_step rfl rfl (fun k => rfl) ?_
      refine xg_step rfl rfl (fun k => rfl) ?_
      refine xg_step rfl rfl (fun k => rfl) ?_
      refine zg_cvi rfl rfl rfl (Nat.le_of_ble_eq_true rfl) (zha (by decide)) zc_RefM rfl rfl zq_132t ?_
      rw [zup_zup]
      refine xg_step rfl rfl (fun k => rfl) ?_
      refine zg_ret rfl rfl ?_
      first | rfl | exact (by omega : False).elim
    ·
      refine xg_step rfl rfl (fun k => rfl) ?_
      refine xg_step rfl rfl (fun k => rfl) ?_
      refine zg_cvi rfl rfl rfl (Nat.le_of_ble_eq_true rfl) (zha (by decide)) zc_RefM rfl rfl zq_132f ?_
      rw [zup_zup]
      refine xg_step rfl rfl (fun k => rfl) ?_
      refine xg_step rfl rfl (fun k => rfl) ?_
      refine xg_step rfl rfl (fun k => rfl) ?_
      refine zg_lt0 rfl rfl (fun x k => rfl) (by first | assumption | exact hA _ _ | exact hB _ _ | exact hC _ _ | exact zrg_max (by assumption) (hA _ _) | (constructor <;> omega)) (fun hc => ?_) (fun hc => ?_)
      ·
        refine xg_step rfl rfl (fun k => rfl) ?_
        refine xg_step rfl rfl (fun k => rfl) ?_
        refine xg_step rfl rfl (fun k => rfl) ?_
        refine zg_cvi rfl rfl rfl (Nat.le_of_ble_eq_true rfl) (zha (by decide)) zc_RefM rfl rfl zq_132t ?_
        rw [zup_zup]
        refine xg_step rfl rfl (fun k => rfl) ?_
        refine zg_ret rfl rfl ?_
        first | rfl | exact (by omega : False).elim
      ·
        refine xg_step rfl rfl (fun k => rfl) ?_
        refine zg_bi rfl (by decide) ?_
        refine zg_lt rfl rfl (fun x y k => rfl) (by first | assumption | exact hA _ _ | exact hB _ _ | exact hC _ _ | exact zrg_max (by assumption) (hA _ _) | (constructor <;> omega)) (by first | assumption | exact hA _ _ | exact hB _ _ | exact hC _ _ | exact zrg_max (by assumption) (hA _ _) | (constructor <;> omega)) (fun hc => ?_) (fun hc => ?_)
        ·
          refine xg_step rfl rfl (fun k => rfl) ?_
          refine xg_step rfl rfl (fun k => rfl) ?_
          refine zg_cvi rfl rfl rfl (Nat.le_of_ble_eq_true rfl) (zha (by decide)) zc_RefM rfl rfl zq_132f ?_
          rw [zup_zup]
          refine xg_step rfl rfl (fun k => rfl) ?_
          exact (by omega : False).elim
        ·
          refine xg_step rfl rfl (fun k => rfl) ?_
          refine xg_step rfl rfl (fun k => rfl) ?_
          refine xg_step rfl rfl (fun k => rfl) ?_
          refine zg_cvi rfl rfl rfl (Nat.le_of_ble_eq_true rfl) (zha (by decide)) zc_RefM rfl rfl zq_132t ?_
          rw [zup_zup]
          refine xg_step rfl rfl (fun k => rfl) ?_
          refine zg_ret rfl rfl ?_
          first | rfl | exact (by omega : False).elim
  ·
    refine xg_step rfl rfl (fun k => rfl) ?_
    refine xg_step rfl rfl (fun k => rfl) ?_
    refine xg_step rfl rfl (fun k => rfl) ?_
    refine xg_step rfl rfl (fun k => rfl) ?_
    refine zg_cvi rfl rfl rfl (Nat.le_of_ble_eq_true rfl) (zha (by decide)) zc_RefM rfl rfl zq_132t ?_
    refine xg_step rfl rfl (fun k => rfl) ?_
    refine zg_ret rfl rfl ?_
    first | rfl | exact (by omega : False).elim
set_option maxRecDepth 10000 in
theorem zo_141b {d : Nat} {A B C : ZM} (hB : zRg B) (hC : zRg C) {p : Int} (hp : zrg p) {w : Int} (hw : zrg w) (h1 : 0 ≤ p ∧ p < 3) (h2 : B (56 + 17 * p) 9 = 0) : XR (d + 2) 141 [.ref 107, zci (p), zci (w)] (zhp A (zmg B C)) (none, zhp A (zmg B (zup C 107 0 2))) := by
  refine XR.of (Nat.le_of_ble_eq_true rfl) rfl ?_
  refine xg_step rfl rfl (fun k => rfl) ?_
  refine xg_step rfl rfl (fun k => rfl) ?_
  refine zg_csb rfl rfl (by decide) rfl rfl (Nat.le_of_ble_eq_true rfl) rfl (zq_130 hB hC (by first | assumption | exact hA _ _ | exact hB _ _ | exact hC _ _ | exact zrg_max (by assumption) (hA _ _) | (constructor <;> omega))) (fun hc => ?_) (fun hc => ?_)
  ·
    refine xg_step rfl rfl (fun k => rfl) ?_
    refine xg_step rfl rfl (fun k => rfl) ?_
    refine xg_step rfl rfl (fun k => rfl) ?_
    refine zg_cvi rfl rfl rfl (Nat.le_of_ble_eq_true rfl) (zha (by decide)) zc_RefM rfl rfl zq_132f ?_
    refine xg_step rfl rfl (fun k => rfl) ?_
    refine xg_step rfl rfl (fun k => rfl) ?_
    refine xg_step rfl rfl (fun k => rfl) ?_
    refine xg_get rfl rfl (zha (by decide)) zc_RefM rfl rfl ?_
    refine xg_step rfl rfl (fun k => rfl) ?_
    refine zg_ald (.inr ⟨rfl, rfl⟩) (zha (by decide)) zc_r_lied (by decide) ⟨by omega, by omega⟩ (zvB (zk_lied (by omega)) (by omega)) ?_
    refine zg_eq0 rfl rfl (fun x k => rfl) (by first | assumption | exact hA _ _ | exact hB _ _ | exact hC _ _ | exact zrg_max (by assumption) (hA _ _) | (constructor <;> omega)) (fun hc => ?_) (fun hc => ?_)
    ·
      refine xg_step rfl rfl (fun k => rfl) ?_
      refine xg_step rfl rfl (fun k => rfl) ?_
      refine xg_step rfl rfl (fun k => rfl) ?_
      refine zg_cvi rfl rfl rfl (Nat.le_of_ble_eq_true rfl) (zha (by decide)) zc_RefM rfl rfl zq_132t ?_
      rw [zup_zup]
      refine xg_step rfl rfl (fun k => rfl) ?_
      refine zg_ret rfl rfl ?_
      first | rfl | exact (by omega : False).elim
    ·
      refine xg_step rfl rfl (fun k => rfl) ?_
      refine xg_step rfl rfl (fun k => rfl) ?_
      refine zg_cvi rfl rfl rfl (Nat.le_of_ble_eq_true rfl) (zha (by decide)) zc_RefM rfl rfl zq_132f ?_
      rw [zup_zup]
      refine xg_step rfl rfl (fun k => rfl) ?_
      refine xg_step rfl rfl (fun k => rfl) ?_
      refine xg_step rfl rfl (fun k => rfl) ?_
      refine zg_lt0 rfl rfl (fun x k => rfl) (by first | assumption | exact hA _ _ | exact hB _ _ | exact hC _ _ | exact zrg_max (by assumption) (hA _ _) | (constructor <;> omega)) (fun hc => ?_) (fun hc => ?_)
      ·
        refine xg_step rfl rfl (fun k => rfl) ?_
        refine xg_step rfl rfl (fun k => rfl) ?_
        refine xg_step rfl rfl (fun k => rfl) ?_
        refine zg_cvi rfl rfl rfl (Nat.le_of_ble_eq_true rfl) (zha (by decide)) zc_RefM rfl rfl zq_132t ?_
        rw [zup_zup]
        refine xg_step rfl rfl (fun k => rfl) ?_
        refine zg_ret rfl rfl ?_
        first | rfl | exact (by omega : False).elim
      ·
        refine xg_step rfl rfl (fun k => rfl) ?_
        refine zg_bi rfl (by decide) ?_
        refine zg_lt rfl rfl (fun x y k => rfl) (by first | assumption | exact hA _ _ | exact hB _ _ | exact hC _ _ | exact zrg_max (by assumption) (hA _ _) | (constructor <;> omega)) (by first | assumption | exact hA _ _ | exact hB _ _ | exact hC _ _ | exact zrg_max (by assumption) (hA _ _) | (constructor <;> omega)) (fun hc => ?_) (fun hc => ?_)
        ·
          refine xg_step rfl rfl (fun k => rfl) ?_
          refine xg_step rfl rfl (fun k => rfl) ?_
          refine zg_cvi rfl rfl rfl (Nat.le_of_ble_eq_true rfl) (zha (by decide)) zc_RefM rfl rfl zq_132f ?_
          rw [zup_zup]
          refine xg_step rfl rfl (fun k => rfl) ?_
          exact (by omega : False).elim
        ·
          refine xg_step rfl rfl (fun k => rfl) ?_
          refine xg_step rfl rfl (fun k => rfl) ?_
          refine xg_step rfl rfl (fun k => rfl) ?_
          refine zg_cvi rfl rfl rfl (Nat.le_of_ble_eq_true rfl) (zha (by decide)) zc_RefM rfl rfl zq_132t ?_
          rw [zup_zup]
          refine xg_step rfl rfl (fun k => rfl) ?_
          refine zg_ret rfl rfl ?_
          first | rfl | exact (by omega : False).elim
  ·
    refine xg_step rfl rfl (fun k => rfl) ?_
    refine xg_step rfl rfl (fun k => rfl) ?_
    refine xg_step rfl rfl (fun k => rfl) ?_
    refine xg_step rfl rfl (fun k => rfl) ?_
    refine zg_cvi rfl rfl rfl (Nat.le_of_ble_eq_true rfl) (zha (by decide)) zc_RefM rfl rfl zq_132t ?_
    refine xg_step rfl rfl (fun k => rfl) ?_
    refine zg_ret rfl rfl ?_
    first | rfl | exact (by omega : False).elim
set_option maxRecDepth 10000 in
theorem zo_141c {d : Nat} {A B C : ZM} (hB : zRg B) (hC : zRg C) {p : Int} (hp : zrg p) {w : Int} (hw : zrg w) (h1 : 0 ≤ p ∧ p < 3) (h2 : ¬ B (56 + 17 * p) 9 = 0) (h3 : ¬ (0 ≤ w ∧ w < 31)) : XR (d + 2) 141 [.ref 107, zci (p), zci (w)] (zhp A (zmg B C)) (none, zhp A (zmg B (zup C 107 0 3))) := by
  refine XR.of (Nat.le_of_ble_eq_true rfl) rfl ?_
  refine xg_step rfl rfl (fun k => rfl) ?_
  refine xg_step rfl rfl (fun k => rfl) ?_
  refine zg_csb rfl rfl (by decide) rfl rfl (Nat.le_of_ble_eq_true rfl) rfl (zq_130 hB hC (by first | assumption | exact hA _ _ | exact hB _ _ | exact hC _ _ | exact zrg_max (by assumption) (hA _ _) | (constructor <;> omega))) (fun hc => ?_) (fun hc => ?_)
  ·
    refine xg_step rfl rfl (fun k => rfl) ?_
    refine xg_step rfl rfl (fun k => rfl) ?_
    refine xg_step rfl rfl (fun k => rfl) ?_
    refine zg_cvi rfl rfl rfl (Nat.le_of_ble_eq_true rfl) (zha (by decide)) zc_RefM rfl rfl zq_132f ?_
    refine xg_step rfl rfl (fun k => rfl) ?_
    refine xg_step rfl rfl (fun k => rfl) ?_
    refine xg_step rfl rfl (fun k => rfl) ?_
    refine xg_get rfl rfl (zha (by decide)) zc_RefM rfl rfl ?_
    refine xg_step rfl rfl (fun k => rfl) ?_
    refine zg_ald (.inr ⟨rfl, rfl⟩) (zha (by decide)) zc_r_lied (by decide) ⟨by omega, by omega⟩ (zvB (zk_lied (by omega)) (by omega)) ?_
    refine zg_eq0 rfl rfl (fun x k => rfl) (by first | assumption | exact hA _ _ | exact hB _ _ | exact hC _ _ | exact zrg_max (by assumption) (hA _ _) | (constructor <;> omega)) (fun hc => ?_) (fun hc => ?_)
    ·
      refine xg_step rfl rfl (fun k => rfl) ?_
      refine xg_step rfl rfl (fun k => rfl) ?_
      refine xg_step rfl rfl (fun k => rfl) ?_
      refine zg_cvi rfl rfl rfl (Nat.le_of_ble_eq_true rfl) (zha (by decide)) zc_RefM rfl rfl zq_132t ?_
      rw [zup_zup]
      refine xg_step rfl rfl (fun k => rfl) ?_
      refine zg_ret rfl rfl ?_
      first | rfl | exact (by omega : False).elim
    ·
      refine xg_step rfl rfl (fun k => rfl) ?_
      refine xg_step rfl rfl (fun k => rfl) ?_
      refine zg_cvi rfl rfl rfl (Nat.le_of_ble_eq_true rfl) (zha (by decide)) zc_RefM rfl rfl zq_132f ?_
      rw [zup_zup]
      refine xg_step rfl rfl (fun k => rfl) ?_
      refine xg_step rfl rfl (fun k => rfl) ?_
      refine xg_step rfl rfl (fun k => rfl) ?_
      refine zg_lt0 rfl rfl (fun x k => rfl) (by first | assumption | exact hA _ _ | exact hB _ _ | exact hC _ _ | exact zrg_max (by assumption) (hA _ _) | (constructor <;> omega)) (fun hc => ?_) (fun hc => ?_)
      ·
        refine xg_step rfl rfl (fun k => rfl) ?_
        refine xg_step rfl rfl (fun k => rfl) ?_
        refine xg_step rfl rfl (fun k => rfl) ?_
        refine zg_cvi rfl rfl rfl (Nat.le_of_ble_eq_true rfl) (zha (by decide)) zc_RefM rfl rfl zq_132t ?_
        rw [zup_zup]
        refine xg_step rfl rfl (fun k => rfl) ?_
        refine zg_ret rfl rfl ?_
        first | rfl | exact (by omega : False).elim
      ·
        refine xg_step rfl rfl (fun k => rfl) ?_
        refine zg_bi rfl (by decide) ?_
        refine zg_lt rfl rfl (fun x y k => rfl) (by first | assumption | exact hA _ _ | exact hB _ _ | exact hC _ _ | exact zrg_max (by assumption) (hA _ _) | (constructor <;> omega)) (by first | assumption | exact hA _ _ | exact hB _ _ | exact hC _ _ | exact zrg_max (by assumption) (hA _ _) | (constructor <;> omega)) (fun hc => ?_) (fun hc => ?_)
        ·
          refine xg_step rfl rfl (fun k => rfl) ?_
          refine xg_step rfl rfl (fun k => rfl) ?_
          refine zg_cvi rfl rfl rfl (Nat.le_of_ble_eq_true rfl) (zha (by decide)) zc_RefM rfl rfl zq_132f ?_
          rw [zup_zup]
          refine xg_step rfl rfl (fun k => rfl) ?_
          exact (by omega : False).elim
        ·
          refine xg_step rfl rfl (fun k => rfl) ?_
          refine xg_step rfl rfl (fun k => rfl) ?_
          refine xg_step rfl rfl (fun k => rfl) ?_
          refine zg_cvi rfl rfl rfl (Nat.le_of_ble_eq_true rfl) (zha (by decide)) zc_RefM rfl rfl zq_132t ?_
          rw [zup_zup]
          refine xg_step rfl rfl (fun k => rfl) ?_
          refine zg_ret rfl rfl ?_
          first | rfl | exact (by omega : False).elim
  ·
    refine xg_step rfl rfl (fun k => rfl) ?_
    refine xg_step rfl rfl (fun k => rfl) ?_
    refine xg_step rfl rfl (fun k => rfl) ?_
    refine xg_step rfl rfl (fun k => rfl) ?_
    refine zg_cvi rfl rfl rfl (Nat.le_of_ble_eq_true rfl) (zha (by decide)) zc_RefM rfl rfl zq_132t ?_
    refine xg_step rfl rfl (fun k => rfl) ?_
    refine zg_ret rfl rfl ?_
    first | rfl | exact (by omega : False).elim
set_option maxRecDepth 10000 in
theorem zo_141 {d : Nat} {A B C : ZM} (hB : zRg B) (hC : zRg C) {p : Int} (hp : zrg p) {w : Int} (hw : zrg w) (h1 : 0 ≤ p ∧ p < 3) (h2 : ¬ B (56 + 17 * p) 9 = 0) (h3 : 0 ≤ w ∧ w < 31) : XR (d + 2) 141 [.ref 107, zci (p), zci (w)] (zhp A (zmg B C)) (none, zhp A (zmg (zup B (66 + 17 * p) p w) (zup C 107 0 0))) := by
  refine XR.of (Nat.le_of_ble_eq_true rfl) rfl ?_
  refine xg_step rfl rfl (fun k => rfl) ?_
  refine xg_step rfl rfl (fun k => rfl) ?_
  refine zg_csb rfl rfl (by decide) rfl rfl (Nat.le_of_ble_eq_true rfl) rfl (zq_130 hB hC (by first | assumption | exact hA _ _ | exact hB _ _ | exact hC _ _ | exact zrg_max (by assumption) (hA _ _) | (constructor <;> omega))) (fun hc => ?_) (fun hc => ?_)
  ·
    refine xg_step rfl rfl (fun k => rfl) ?_
    refine xg_step rfl rfl (fun k => rfl) ?_
    refine xg_step rfl rfl (fun k => rfl) ?_
    refine zg_cvi rfl rfl rfl (Nat.le_of_ble_eq_true rfl) (zha (by decide)) zc_RefM rfl rfl zq_132f ?_
    refine xg_step rfl rfl (fun k => rfl) ?_
    refine xg_step rfl rfl (fun k => rfl) ?_
    refine xg_step rfl rfl (fun k => rfl) ?_
    refine xg_get rfl rfl (zha (by decide)) zc_RefM rfl rfl ?_
    refine xg_step rfl rfl (fun k => rfl) ?_
    refine zg_ald (.inr ⟨rfl, rfl⟩) (zha (by decide)) zc_r_lied (by decide) ⟨by omega, by omega⟩ (zvB (zk_lied (by omega)) (by omega)) ?_
    refine zg_eq0 rfl rfl (fun x k => rfl) (by first | assumption | exact hA _ _ | exact hB _ _ | exact hC _ _ | exact zrg_max (by assumption) (hA _ _) | (constructor <;> omega)) (fun hc => ?_) (fun hc => ?_)
    ·
      refine xg_step rfl rfl (fun k => rfl) ?_
      refine xg_step rfl rfl (fun k => rfl) ?_
      refine xg_step rfl rfl (fun k => rfl) ?_
      refine zg_cvi rfl rfl rfl (Nat.le_of_ble_eq_true rfl) (zha (by decide)) zc_RefM rfl rfl zq_132t ?_
      rw [zup_zup]
      refine xg_step rfl rfl (fun k => rfl) ?_
      refine zg_ret rfl rfl ?_
      first | rfl | exact (by omega : False).elim
    ·
      refine xg_step rfl rfl (fun k => rfl) ?_
      refine xg_step rfl rfl (fun k => rfl) ?_
      refine zg_cvi rfl rfl rfl (Nat.le_of_ble_eq_true rfl) (zha (by decide)) zc_RefM rfl rfl zq_132f ?_
      rw [zup_zup]
      refine xg_step rfl rfl (fun k => rfl) ?_
      refine xg_step rfl rfl (fun k => rfl) ?_
      refine xg_step rfl rfl (fun k => rfl) ?_
      refine zg_lt0 rfl rfl (fun x k => rfl) (by first | assumption | exact hA _ _ | exact hB _ _ | exact hC _ _ | exact zrg_max (by assumption) (hA _ _) | (constructor <;> omega)) (fun hc => ?_) (fun hc => ?_)
      ·
        refine xg_step rfl rfl (fun k => rfl) ?_
        refine xg_step rfl rfl (fun k => rfl) ?_
        refine xg_step rfl rfl (fun k => rfl) ?_
        refine zg_cvi rfl rfl rfl (Nat.le_of_ble_eq_true rfl) (zha (by decide)) zc_RefM rfl rfl zq_132t ?_
        rw [zup_zup]
        refine xg_step rfl rfl (fun k => rfl) ?_
        refine zg_ret rfl rfl ?_
        first | rfl | exact (by omega : False).elim
      ·
        refine xg_step rfl rfl (fun k => rfl) ?_
        refine zg_bi rfl (by decide) ?_
        refine zg_lt rfl rfl (fun x y k => rfl) (by first | assumption | exact hA _ _ | exact hB _ _ | exact hC _ _ | exact zrg_max (by assumption) (hA _ _) | (constructor <;> omega)) (by first | assumption | exact hA _ _ | exact hB _ _ | exact hC _ _ | exact zrg_max (by assumption) (hA _ _) | (constructor <;> omega)) (fun hc => ?_) (fun hc => ?_)
        ·
          refine xg_step rfl rfl (fun k => rfl) ?_
          refine xg_step rfl rfl (fun k => rfl) ?_
          refine zg_cvi rfl rfl rfl (Nat.le_of_ble_eq_true rfl) (zha (by decide)) zc_RefM rfl rfl zq_132f ?_
          rw [zup_zup]
          refine xg_step rfl rfl (fun k => rfl) ?_
          refine xg_step rfl rfl (fun k => rfl) ?_
          refine xg_get rfl rfl (zha (by decide)) zc_RefM rfl rfl ?_
          refine xg_step rfl rfl (fun k => rfl) ?_
          refine xg_step rfl rfl (fun k => rfl) ?_
          refine zg_mul rfl ?_
          refine xg_step rfl rfl (fun k => rfl) ?_
          refine zg_add rfl ?_
          refine xg_step rfl rfl (fun k => rfl) ?_
          refine zg_ast (.inl ⟨rfl, rfl⟩) (zha (by decide)) zc_r_asked (by decide) ⟨by omega, by omega⟩ (zhwB (zwB (zk_asked (by omega) (by omega)) zw_r_asked (by omega))) ?_
          refine zg_ret rfl rfl ?_
          first | rfl | exact (by omega : False).elim
        ·
          refine xg_step rfl rfl (fun k => rfl) ?_
          refine xg_step rfl rfl (fun k => rfl) ?_
          refine xg_step rfl rfl (fun k => rfl) ?_
          refine zg_cvi rfl rfl rfl (Nat.le_of_ble_eq_true rfl) (zha (by decide)) zc_RefM rfl rfl zq_132t ?_
          rw [zup_zup]
          refine xg_step rfl rfl (fun k => rfl) ?_
          refine zg_ret rfl rfl ?_
          first | rfl | exact (by omega : False).elim
  ·
    refine xg_step rfl rfl (fun k => rfl) ?_
    refine xg_step rfl rfl (fun k => rfl) ?_
    refine xg_step rfl rfl (fun k => rfl) ?_
    refine xg_step rfl rfl (fun k => rfl) ?_
    refine zg_cvi rfl rfl rfl (Nat.le_of_ble_eq_true rfl) (zha (by decide)) zc_RefM rfl rfl zq_132t ?_
    refine xg_step rfl rfl (fun k => rfl) ?_
    refine zg_ret rfl rfl ?_
    first | rfl | exact (by omega : False).elim
set_option maxRecDepth 10000 in
theorem zo_142a {d : Nat} {A B C : ZM} (hB : zRg B) (hC : zRg C) {p : Int} (hp : zrg p) {r w : Int} (hr : zrg r) (h1 : ¬ ((0 ≤ p ∧ p < 3) ∧ (0 ≤ r ∧ r < B 1 6))) : XR (d + 2) 142 [.ref 107, zci (p), zci (r), zci (w)] (zhp A (zmg B C)) (none, zhp A (zmg B (zup C 107 0 1))) := by
  refine XR.of (Nat.le_of_ble_eq_true rfl) rfl ?_
  refine xg_step rfl rfl (fun k => rfl) ?_
  refine xg_step rfl rfl (fun k => rfl) ?_
  refine zg_csb rfl rfl (by decide) rfl rfl (Nat.le_of_ble_eq_true rfl) rfl (zq_130 hB hC (by first | assumption | exact hA _ _ | exact hB _ _ | exact hC _ _ | exact zrg_max (by assumption) (hA _ _) | (constructor <;> omega))) (fun hc => ?_) (fun hc => ?_)
  ·
    refine xg_step rfl rfl (fun k => rfl) ?_
    refine xg_step rfl rfl (fun k => rfl) ?_
    refine xg_step rfl rfl (fun k => rfl) ?_
    refine zg_cvb rfl rfl rfl (Nat.le_of_ble_eq_true rfl) (zha (by decide)) zc_RefM rfl rfl (zq_131 hB hC (by first | assumption | exact hA _ _ | exact hB _ _ | exact hC _ _ | exact zrg_max (by assumption) (hA _ _) | (constructor <;> omega))) (fun hc => ?_) (fun hc => ?_)
    ·
      refine xg_step rfl rfl (fun k => rfl) ?_
      refine xg_step rfl rfl (fun k => rfl) ?_
      refine xg_step rfl rfl (fun k => rfl) ?_
      refine zg_cvi rfl rfl rfl (Nat.le_of_ble_eq_true rfl) (zha (by decide)) zc_RefM rfl rfl zq_132f ?_
      refine xg_step rfl rfl (fun k => rfl) ?_
      refine xg_step rfl rfl (fun k => rfl) ?_
      refine xg_step rfl rfl (fun k => rfl) ?_
      refine xg_get rfl rfl (zha (by decide)) zc_RefM rfl rfl ?_
      refine xg_step rfl rfl (fun k => rfl) ?_
      refine zg_ald (.inr ⟨rfl, rfl⟩) (zha (by decide)) zc_r_lied (by decide) ⟨by omega, by omega⟩ (zvB (zk_lied (by omega)) (by omega)) ?_
      refine zg_eq0 rfl rfl (fun x k => rfl) (by first | assumption | exact hA _ _ | exact hB _ _ | exact hC _ _ | exact zrg_max (by assumption) (hA _ _) | (constructor <;> omega)) (fun hc => ?_) (fun hc => ?_)
      ·
        refine xg_step rfl rfl (fun k => rfl) ?_
        refine xg_step rfl rfl (fun k => rfl) ?_
        refine xg_step rfl rfl (fun k => rfl) ?_
        refine zg_cvi rfl rfl rfl (Nat.le_of_ble_eq_true rfl) (zha (by decide)) zc_RefM rfl rfl zq_132t ?_
        rw [zup_zup]
        refine xg_step rfl rfl (fun k => rfl) ?_
        refine zg_ret rfl rfl ?_
        first | rfl | exact (by omega : False).elim
      ·
        refine xg_step rfl rfl (fun k => rfl) ?_
        refine xg_step rfl rfl (fun k => rfl) ?_
        refine zg_cvi rfl rfl rfl (Nat.le_of_ble_eq_true rfl) (zha (by decide)) zc_RefM rfl rfl zq_132f ?_
        rw [zup_zup]
        refine xg_step rfl rfl (fun k => rfl) ?_
        exact (by omega : False).elim
    ·
      refine xg_step rfl rfl (fun k => rfl) ?_
      refine xg_step rfl rfl (fun k => rfl) ?_
      refine xg_step rfl rfl (fun k => rfl) ?_
      refine xg_step rfl rfl (fun k => rfl) ?_
      refine zg_cvi rfl rfl rfl (Nat.le_of_ble_eq_true rfl) (zha (by decide)) zc_RefM rfl rfl zq_132t ?_
      refine xg_step rfl rfl (fun k => rfl) ?_
      refine zg_ret rfl rfl ?_
      first | rfl | exact (by omega : False).elim
  ·
    refine xg_step rfl rfl (fun k => rfl) ?_
    refine xg_step rfl rfl (fun k => rfl) ?_
    refine xg_step rfl rfl (fun k => rfl) ?_
    refine xg_step rfl rfl (fun k => rfl) ?_
    refine zg_cvi rfl rfl rfl (Nat.le_of_ble_eq_true rfl) (zha (by decide)) zc_RefM rfl rfl zq_132t ?_
    refine xg_step rfl rfl (fun k => rfl) ?_
    refine zg_ret rfl rfl ?_
    first | rfl | exact (by omega : False).elim
set_option maxRecDepth 10000 in
theorem zo_142b {d : Nat} {A B C : ZM} (hB : zRg B) (hC : zRg C) {p : Int} (hp : zrg p) {r w : Int} (hr : zrg r) (h1 : 0 ≤ p ∧ p < 3) (h2 : 0 ≤ r ∧ r < B 1 6) (h3 : B (56 + 17 * p) 9 = 0) : XR (d + 2) 142 [.ref 107, zci (p), zci (r), zci (w)] (zhp A (zmg B C)) (none, zhp A (zmg B (zup C 107 0 2))) := by
  refine XR.of (Nat.le_of_ble_eq_true rfl) rfl ?_
  refine xg_step rfl rfl (fun k => rfl) ?_
  refine xg_step rfl rfl (fun k => rfl) ?_
  refine zg_csb rfl rfl (by decide) rfl rfl (Nat.le_of_ble_eq_true rfl) rfl (zq_130 hB hC (by first | assumption | exact hA _ _ | exact hB _ _ | exact hC _ _ | exact zrg_max (by assumption) (hA _ _) | (constructor <;> omega))) (fun hc => ?_) (fun hc => ?_)
  ·
    refine xg_step rfl rfl (fun k => rfl) ?_
    refine xg_step rfl rfl (fun k => rfl) ?_
    refine xg_step rfl rfl (fun k => rfl) ?_
    refine zg_cvb rfl rfl rfl (Nat.le_of_ble_eq_true rfl) (zha (by decide)) zc_RefM rfl rfl (zq_131 hB hC (by first | assumption | exact hA _ _ | exact hB _ _ | exact hC _ _ | exact zrg_max (by assumption) (hA _ _) | (constructor <;> omega))) (fun hc => ?_) (fun hc => ?_)
    ·
      refine xg_step rfl rfl (fun k => rfl) ?_
      refine xg_step rfl rfl (fun k => rfl) ?_
      refine xg_step rfl rfl (fun k => rfl) ?_
      refine zg_cvi rfl rfl rfl (Nat.le_of_ble_eq_true rfl) (zha (by decide)) zc_RefM rfl rfl zq_132f ?_
      refine xg_step rfl rfl (fun k => rfl) ?_
      refine xg_step rfl rfl (fun k => rfl) ?_
      refine xg_step rfl rfl (fun k => rfl) ?_
      refine xg_get rfl rfl (zha (by decide)) zc_RefM rfl rfl ?_
      refine xg_step rfl rfl (fun k => rfl) ?_
      refine zg_ald (.inr ⟨rfl, rfl⟩) (zha (by decide)) zc_r_lied (by decide) ⟨by omega, by omega⟩ (zvB (zk_lied (by omega)) (by omega)) ?_
      refine zg_eq0 rfl rfl (fun x k => rfl) (by first | assumption | exact hA _ _ | exact hB _ _ | exact hC _ _ | exact zrg_max (by assumption) (hA _ _) | (constructor <;> omega)) (fun hc => ?_) (fun hc => ?_)
      ·
        refine xg_step rfl rfl (fun k => rfl) ?_
        refine xg_step rfl rfl (fun k => rfl) ?_
        refine xg_step rfl rfl (fun k => rfl) ?_
        refine zg_cvi rfl rfl rfl (Nat.le_of_ble_eq_true rfl) (zha (by decide)) zc_RefM rfl rfl zq_132t ?_
        rw [zup_zup]
        refine xg_step rfl rfl (fun k => rfl) ?_
        refine zg_ret rfl rfl ?_
        first | rfl | exact (by omega : False).elim
      ·
        refine xg_step rfl rfl (fun k => rfl) ?_
        refine xg_step rfl rfl (fun k => rfl) ?_
        refine zg_cvi rfl rfl rfl (Nat.le_of_ble_eq_true rfl) (zha (by decide)) zc_RefM rfl rfl zq_132f ?_
        rw [zup_zup]
        refine xg_step rfl rfl (fun k => rfl) ?_
        exact (by omega : False).elim
    ·
      refine xg_step rfl rfl (fun k => rfl) ?_
      refine xg_step rfl rfl (fun k => rfl) ?_
      refine xg_step rfl rfl (fun k => rfl) ?_
      refine xg_step rfl rfl (fun k => rfl) ?_
      refine zg_cvi rfl rfl rfl (Nat.le_of_ble_eq_true rfl) (zha (by decide)) zc_RefM rfl rfl zq_132t ?_
      refine xg_step rfl rfl (fun k => rfl) ?_
      refine zg_ret rfl rfl ?_
      first | rfl | exact (by omega : False).elim
  ·
    refine xg_step rfl rfl (fun k => rfl) ?_
    refine xg_step rfl rfl (fun k => rfl) ?_
    refine xg_step rfl rfl (fun k => rfl) ?_
    refine xg_step rfl rfl (fun k => rfl) ?_
    refine zg_cvi rfl rfl rfl (Nat.le_of_ble_eq_true rfl) (zha (by decide)) zc_RefM rfl rfl zq_132t ?_
    refine xg_step rfl rfl (fun k => rfl) ?_
    refine zg_ret rfl rfl ?_
    first | rfl | exact (by omega : False).elim
set_option maxRecDepth 10000 in
theorem zo_142 {d : Nat} {A B C : ZM} (hB : zRg B) (hC : zRg C) {p : Int} (hp : zrg p) {r w : Int} (hr : zrg r) (h1 : 0 ≤ p ∧ p < 3) (h2 : 0 ≤ r ∧ r < B 1 6) (hq60 : B 1 6 ≤ 60) (h3 : ¬ B (56 + 17 * p) 9 = 0) : XR (d + 2) 142 [.ref 107, zci (p), zci (r), zci (w)] (zhp A (zmg B C)) (none, zhp A (zmg (zup (zup B (71 + 17 * p) r 1) (72 + 17 * p) r w) (zup C 107 0 0))) := by
  refine XR.of (Nat.le_of_ble_eq_true rfl) rfl ?_
  refine xg_step rfl rfl (fun k => rfl) ?_
  refine xg_step rfl rfl (fun k => rfl) ?_
  refine zg_csb rfl rfl (by decide) rfl rfl (Nat.le_of_ble_eq_true rfl) rfl (zq_130 hB hC (by first | assumption | exact hA _ _ | exact hB _ _ | exact hC _ _ | exact zrg_max (by assumption) (hA _ _) | (constructor <;> omega))) (fun hc => ?_) (fun hc => ?_)
  ·
    refine xg_step rfl rfl (fun k => rfl) ?_
    refine xg_step rfl rfl (fun k => rfl) ?_
    refine xg_step rfl rfl (fun k => rfl) ?_
    refine zg_cvb rfl rfl rfl (Nat.le_of_ble_eq_true rfl) (zha (by decide)) zc_RefM rfl rfl (zq_131 hB hC (by first | assumption | exact hA _ _ | exact hB _ _ | exact hC _ _ | exact zrg_max (by assumption) (hA _ _) | (constructor <;> omega))) (fun hc => ?_) (fun hc => ?_)
    ·
      refine xg_step rfl rfl (fun k => rfl) ?_
      refine xg_step rfl rfl (fun k => rfl) ?_
      refine xg_step rfl rfl (fun k => rfl) ?_
      refine zg_cvi rfl rfl rfl (Nat.le_of_ble_eq_true rfl) (zha (by decide)) zc_RefM rfl rfl zq_132f ?_
      refine xg_step rfl rfl (fun k => rfl) ?_
      refine xg_step rfl rfl (fun k => rfl) ?_
      refine xg_step rfl rfl (fun k => rfl) ?_
      refine xg_get rfl rfl (zha (by decide)) zc_RefM rfl rfl ?_
      refine xg_step rfl rfl (fun k => rfl) ?_
      refine zg_ald (.inr ⟨rfl, rfl⟩) (zha (by decide)) zc_r_lied (by decide) ⟨by omega, by omega⟩ (zvB (zk_lied (by omega)) (by omega)) ?_
      refine zg_eq0 rfl rfl (fun x k => rfl) (by first | assumption | exact hA _ _ | exact hB _ _ | exact hC _ _ | exact zrg_max (by assumption) (hA _ _) | (constructor <;> omega)) (fun hc => ?_) (fun hc => ?_)
      ·
        refine xg_step rfl rfl (fun k => rfl) ?_
        refine xg_step rfl rfl (fun k => rfl) ?_
        refine xg_step rfl rfl (fun k => rfl) ?_
        refine zg_cvi rfl rfl rfl (Nat.le_of_ble_eq_true rfl) (zha (by decide)) zc_RefM rfl rfl zq_132t ?_
        rw [zup_zup]
        refine xg_step rfl rfl (fun k => rfl) ?_
        refine zg_ret rfl rfl ?_
        first | rfl | exact (by omega : False).elim
      ·
        refine xg_step rfl rfl (fun k => rfl) ?_
        refine xg_step rfl rfl (fun k => rfl) ?_
        refine zg_cvi rfl rfl rfl (Nat.le_of_ble_eq_true rfl) (zha (by decide)) zc_RefM rfl rfl zq_132f ?_
        rw [zup_zup]
        refine xg_step rfl rfl (fun k => rfl) ?_
        refine xg_step rfl rfl (fun k => rfl) ?_
        refine xg_get rfl rfl (zha (by decide)) zc_RefM rfl rfl ?_
        refine zg_bi rfl (by decide) ?_
        refine xg_step rfl rfl (fun k => rfl) ?_
        refine zg_mul rfl ?_
        refine xg_step rfl rfl (fun k => rfl) ?_
        refine zg_add rfl ?_
        refine xg_step rfl rfl (fun k => rfl) ?_
        refine zg_ast (.inr ⟨rfl, rfl, by omega⟩) (zha (by decide)) zc_r_hasReply (by decide) ⟨by omega, by omega⟩ (zhwB (zwB (zk_hasReply (by omega) (by omega)) zw_r_hasReply (by omega))) ?_
        refine xg_step rfl rfl (fun k => rfl) ?_
        refine xg_get rfl rfl (zha (by decide)) zc_RefM rfl rfl ?_
        refine zg_bi rfl (by decide) ?_
        refine xg_step rfl rfl (fun k => rfl) ?_
        refine zg_mul rfl ?_
        refine xg_step rfl rfl (fun k => rfl) ?_
        refine zg_add rfl ?_
        refine xg_step rfl rfl (fun k => rfl) ?_
        refine zg_ast (.inl ⟨rfl, rfl⟩) (zha (by decide)) zc_r_replies (by decide) ⟨by omega, by omega⟩ (zhwB (zwB (zk_replies (by omega) (by omega)) zw_r_replies (by omega))) ?_
        refine zg_ret rfl rfl ?_
        first | rfl | exact (by omega : False).elim
    ·
      refine xg_step rfl rfl (fun k => rfl) ?_
      refine xg_step rfl rfl (fun k => rfl) ?_
      refine xg_step rfl rfl (fun k => rfl) ?_
      refine xg_step rfl rfl (fun k => rfl) ?_
      refine zg_cvi rfl rfl rfl (Nat.le_of_ble_eq_true rfl) (zha (by decide)) zc_RefM rfl rfl zq_132t ?_
      refine xg_step rfl rfl (fun k => rfl) ?_
      refine zg_ret rfl rfl ?_
      first | rfl | exact (by omega : False).elim
  ·
    refine xg_step rfl rfl (fun k => rfl) ?_
    refine xg_step rfl rfl (fun k => rfl) ?_
    refine xg_step rfl rfl (fun k => rfl) ?_
    refine xg_step rfl rfl (fun k => rfl) ?_
    refine zg_cvi rfl rfl rfl (Nat.le_of_ble_eq_true rfl) (zha (by decide)) zc_RefM rfl rfl zq_132t ?_
    refine xg_step rfl rfl (fun k => rfl) ?_
    refine zg_ret rfl rfl ?_
    first | rfl | exact (by omega : False).elim
set_option maxRecDepth 10000 in
theorem zo_140a {d : Nat} {A B C : ZM} (hB : zRg B) (hC : zRg C) {p : Int} (hp : zrg p) {kd w a b : Int} (hkd : zrg kd) (hw : zrg w) (ha : zrg a) (hb : zrg b) (h1 : ¬ (0 ≤ p ∧ p < 3)) : XR (d + 2) 140 [.ref 107, zci (p), zci (kd), zci (w), zci (a), zci (b)] (zhp A (zmg B C)) (some (zci 0), zhp A (zmg B (zup C 107 0 1))) := by
  refine XR.of (Nat.le_of_ble_eq_true rfl) rfl ?_
  refine xg_step rfl rfl (fun k => rfl) ?_
  refine xg_step rfl rfl (fun k => rfl) ?_
  refine zg_csb rfl rfl (by decide) rfl rfl (Nat.le_of_ble_eq_true rfl) rfl (zq_130 hB hC (by first | assumption | exact hA _ _ | exact hB _ _ | exact hC _ _ | exact zrg_max (by assumption) (hA _ _) | (constructor <;> omega))) (fun hc => ?_) (fun hc => ?_)
  ·
    refine xg_step rfl rfl (fun k => rfl) ?_
    refine xg_step rfl rfl (fun k => rfl) ?_
    refine xg_step rfl rfl (fun k => rfl) ?_
    refine zg_cvi rfl rfl rfl (Nat.le_of_ble_eq_true rfl) (zha (by decide)) zc_RefM rfl rfl zq_132f ?_
    refine xg_step rfl rfl (fun k => rfl) ?_
    refine xg_step rfl rfl (fun k => rfl) ?_
    refine xg_step rfl rfl (fun k => rfl) ?_
    refine xg_get rfl rfl (zha (by decide)) zc_RefM rfl rfl ?_
    refine xg_step rfl rfl (fun k => rfl) ?_
    refine zg_ald (.inr ⟨rfl, rfl⟩) (zha (by decide)) zc_r_lied (by decide) ⟨by omega, by omega⟩ (zvB (zk_lied (by omega)) (by omega)) ?_
    refine zg_eq0 rfl rfl (fun x k => rfl) (by first | assumption | exact hA _ _ | exact hB _ _ | exact hC _ _ | exact zrg_max (by assumption) (hA _ _) | (constructor <;> omega)) (fun hc => ?_) (fun hc => ?_)
    ·
      refine xg_step rfl rfl (fun k => rfl) ?_
      refine xg_step rfl rfl (fun k => rfl) ?_
      refine xg_step rfl rfl (fun k => rfl) ?_
      refine zg_cvi rfl rfl rfl (Nat.le_of_ble_eq_true rfl) (zha (by decide)) zc_RefM rfl rfl zq_132t ?_
      rw [zup_zup]
      refine xg_step rfl rfl (fun k => rfl) ?_
      refine xg_step rfl rfl (fun k => rfl) ?_
      refine zg_iret rfl rfl zfitI ?_
      first | rfl | exact (by omega : False).elim
    ·
      refine xg_step rfl rfl (fun k => rfl) ?_
      refine xg_step rfl rfl (fun k => rfl) ?_
      refine zg_cvi rfl rfl rfl (Nat.le_of_ble_eq_true rfl) (zha (by decide)) zc_RefM rfl rfl zq_132f ?_
      rw [zup_zup]
      refine xg_step rfl rfl (fun k => rfl) ?_
      exact (by omega : False).elim
  ·
    refine xg_step rfl rfl (fun k => rfl) ?_
    refine xg_step rfl rfl (fun k => rfl) ?_
    refine xg_step rfl rfl (fun k => rfl) ?_
    refine xg_step rfl rfl (fun k => rfl) ?_
    refine zg_cvi rfl rfl rfl (Nat.le_of_ble_eq_true rfl) (zha (by decide)) zc_RefM rfl rfl zq_132t ?_
    refine xg_step rfl rfl (fun k => rfl) ?_
    refine xg_step rfl rfl (fun k => rfl) ?_
    refine zg_iret rfl rfl zfitI ?_
    first | rfl | exact (by omega : False).elim
set_option maxRecDepth 10000 in
theorem zo_140b {d : Nat} {A B C : ZM} (hB : zRg B) (hC : zRg C) {p : Int} (hp : zrg p) {kd w a b : Int} (hkd : zrg kd) (hw : zrg w) (ha : zrg a) (hb : zrg b) (h1 : 0 ≤ p ∧ p < 3) (h2 : B (56 + 17 * p) 9 = 0) : XR (d + 2) 140 [.ref 107, zci (p), zci (kd), zci (w), zci (a), zci (b)] (zhp A (zmg B C)) (some (zci 0), zhp A (zmg B (zup C 107 0 2))) := by
  refine XR.of (Nat.le_of_ble_eq_true rfl) rfl ?_
  refine xg_step rfl rfl (fun k => rfl) ?_
  refine xg_step rfl rfl (fun k => rfl) ?_
  refine zg_csb rfl rfl (by decide) rfl rfl (Nat.le_of_ble_eq_true rfl) rfl (zq_130 hB hC (by first | assumption | exact hA _ _ | exact hB _ _ | exact hC _ _ | exact zrg_max (by assumption) (hA _ _) | (constructor <;> omega))) (fun hc => ?_) (fun hc => ?_)
  ·
    refine xg_step rfl rfl (fun k => rfl) ?_
    refine xg_step rfl rfl (fun k => rfl) ?_
    refine xg_step rfl rfl (fun k => rfl) ?_
    refine zg_cvi rfl rfl rfl (Nat.le_of_ble_eq_true rfl) (zha (by decide)) zc_RefM rfl rfl zq_132f ?_
    refine xg_step rfl rfl (fun k => rfl) ?_
    refine xg_step rfl rfl (fun k => rfl) ?_
    refine xg_step rfl rfl (fun k => rfl) ?_
    refine xg_get rfl rfl (zha (by decide)) zc_RefM rfl rfl ?_
    refine xg_step rfl rfl (fun k => rfl) ?_
    refine zg_ald (.inr ⟨rfl, rfl⟩) (zha (by decide)) zc_r_lied (by decide) ⟨by omega, by omega⟩ (zvB (zk_lied (by omega)) (by omega)) ?_
    refine zg_eq0 rfl rfl (fun x k => rfl) (by first | assumption | exact hA _ _ | exact hB _ _ | exact hC _ _ | exact zrg_max (by assumption) (hA _ _) | (constructor <;> omega)) (fun hc => ?_) (fun hc => ?_)
    ·
      refine xg_step rfl rfl (fun k => rfl) ?_
      refine xg_step rfl rfl (fun k => rfl) ?_
      refine xg_step rfl rfl (fun k => rfl) ?_
      refine zg_cvi rfl rfl rfl (Nat.le_of_ble_eq_true rfl) (zha (by decide)) zc_RefM rfl rfl zq_132t ?_
      rw [zup_zup]
      refine xg_step rfl rfl (fun k => rfl) ?_
      refine xg_step rfl rfl (fun k => rfl) ?_
      refine zg_iret rfl rfl zfitI ?_
      first | rfl | exact (by omega : False).elim
    ·
      refine xg_step rfl rfl (fun k => rfl) ?_
      refine xg_step rfl rfl (fun k => rfl) ?_
      refine zg_cvi rfl rfl rfl (Nat.le_of_ble_eq_true rfl) (zha (by decide)) zc_RefM rfl rfl zq_132f ?_
      rw [zup_zup]
      refine xg_step rfl rfl (fun k => rfl) ?_
      exact (by omega : False).elim
  ·
    refine xg_step rfl rfl (fun k => rfl) ?_
    refine xg_step rfl rfl (fun k => rfl) ?_
    refine xg_step rfl rfl (fun k => rfl) ?_
    refine xg_step rfl rfl (fun k => rfl) ?_
    refine zg_cvi rfl rfl rfl (Nat.le_of_ble_eq_true rfl) (zha (by decide)) zc_RefM rfl rfl zq_132t ?_
    refine xg_step rfl rfl (fun k => rfl) ?_
    refine xg_step rfl rfl (fun k => rfl) ?_
    refine zg_iret rfl rfl zfitI ?_
    first | rfl | exact (by omega : False).elim
set_option maxRecDepth 10000 in
theorem zo_140c {d : Nat} {A B C : ZM} (hB : zRg B) (hC : zRg C) {p : Int} (hp : zrg p) {kd w a b : Int} (hkd : zrg kd) (hw : zrg w) (ha : zrg a) (hb : zrg b) (h1 : 0 ≤ p ∧ p < 3) (h2 : ¬ B (56 + 17 * p) 9 = 0) (h3 : ¬ ((0 ≤ kd ∧ kd < 4) ∧ (0 ≤ w ∧ w < 31) ∧ zCS B kd a ∧ ((kd = 3 ∧ zCS B 3 b) ∨ (¬ kd = 3 ∧ b = 0)))) : XR (d + 2) 140 [.ref 107, zci (p), zci (kd), zci (w), zci (a), zci (b)] (zhp A (zmg B C)) (some (zci 0), zhp A (zmg B (zup C 107 0 3))) := by
  refine XR.of (Nat.le_of_ble_eq_true rfl) rfl ?_
  refine xg_step rfl rfl (fun k => rfl) ?_
  refine xg_step rfl rfl (fun k => rfl) ?_
  refine zg_csb rfl rfl (by decide) rfl rfl (Nat.le_of_ble_eq_true rfl) rfl (zq_130 hB hC (by first | assumption | exact hA _ _ | exact hB _ _ | exact hC _ _ | exact zrg_max (by assumption) (hA _ _) | (constructor <;> omega))) (fun hc => ?_) (fun hc => ?_)
  ·
    refine xg_step rfl rfl (fun k => rfl) ?_
    refine xg_step rfl rfl (fun k => rfl) ?_
    refine xg_step rfl rfl (fun k => rfl) ?_
    refine zg_cvi rfl rfl rfl (Nat.le_of_ble_eq_true rfl) (zha (by decide)) zc_RefM rfl rfl zq_132f ?_
    refine xg_step rfl rfl (fun k => rfl) ?_
    refine xg_step rfl rfl (fun k => rfl) ?_
    refine xg_step rfl rfl (fun k => rfl) ?_
    refine xg_get rfl rfl (zha (by decide)) zc_RefM rfl rfl ?_
    refine xg_step rfl rfl (fun k => rfl) ?_
    refine zg_ald (.inr ⟨rfl, rfl⟩) (zha (by decide)) zc_r_lied (by decide) ⟨by omega, by omega⟩ (zvB (zk_lied (by omega)) (by omega)) ?_
    refine zg_eq0 rfl rfl (fun x k => rfl) (by first | assumption | exact hA _ _ | exact hB _ _ | exact hC _ _ | exact zrg_max (by assumption) (hA _ _) | (constructor <;> omega)) (fun hc => ?_) (fun hc => ?_)
    ·
      refine xg_step rfl rfl (fun k => rfl) ?_
      refine xg_step rfl rfl (fun k => rfl) ?_
      refine xg_step rfl rfl (fun k => rfl) ?_
      refine zg_cvi rfl rfl rfl (Nat.le_of_ble_eq_true rfl) (zha (by decide)) zc_RefM rfl rfl zq_132t ?_
      rw [zup_zup]
      refine xg_step rfl rfl (fun k => rfl) ?_
      refine xg_step rfl rfl (fun k => rfl) ?_
      refine zg_iret rfl rfl zfitI ?_
      first | rfl | exact (by simp only [zCS] at h3; omega : False).elim
    ·
      refine xg_step rfl rfl (fun k => rfl) ?_
      refine xg_step rfl rfl (fun k => rfl) ?_
      refine zg_cvi rfl rfl rfl (Nat.le_of_ble_eq_true rfl) (zha (by decide)) zc_RefM rfl rfl zq_132f ?_
      rw [zup_zup]
      refine xg_step rfl rfl (fun k => rfl) ?_
      refine xg_step rfl rfl (fun k => rfl) ?_
      refine zg_lt0 rfl rfl (fun x k => rfl) (by first | assumption | exact hA _ _ | exact hB _ _ | exact hC _ _ | exact zrg_max (by assumption) (hA _ _) | (constructor <;> omega)) (fun hc => ?_) (fun hc => ?_)
      ·
        refine xg_step rfl rfl (fun k => rfl) ?_
        refine xg_step rfl rfl (fun k => rfl) ?_
        refine xg_step rfl rfl (fun k => rfl) ?_
        refine xg_step rfl rfl (fun k => rfl) ?_
        refine xg_step rfl rfl (fun k => rfl) ?_
        refine xg_step rfl rfl (fun k => rfl) ?_
        refine xg_step rfl rfl (fun k => rfl) ?_
        refine xg_step rfl rfl (fun k => rfl) ?_
        refine xg_step rfl rfl (fun k => rfl) ?_
        refine xg_step rfl rfl (fun k => rfl) ?_
        refine xg_step rfl rfl (fun k => rfl) ?_
        refine xg_step rfl rfl (fun k => rfl) ?_
        refine zg_cvi rfl rfl rfl (Nat.le_of_ble_eq_true rfl) (zha (by decide)) zc_RefM rfl rfl zq_132t ?_
        rw [zup_zup]
        refine xg_step rfl rfl (fun k => rfl) ?_
        refine xg_step rfl rfl (fun k => rfl) ?_
        refine zg_iret rfl rfl zfitI ?_
        first | rfl | exact (by simp only [zCS] at h3; omega : False).elim
      ·
        refine xg_step rfl rfl (fun k => rfl) ?_
        refine xg_step rfl rfl (fun k => rfl) ?_
        refine zg_lt rfl rfl (fun x y k => rfl) (by first | assumption | exact hA _ _ | exact hB _ _ | exact hC _ _ | exact zrg_max (by assumption) (hA _ _) | (constructor <;> omega)) (by first | assumption | exact hA _ _ | exact hB _ _ | exact hC _ _ | exact zrg_max (by assumption) (hA _ _) | (constructor <;> omega)) (fun hc => ?_) (fun hc => ?_)
        ·
          refine xg_step rfl rfl (fun k => rfl) ?_
          refine zg_lt0 rfl rfl (fun x k => rfl) (by first | assumption | exact hA _ _ | exact hB _ _ | exact hC _ _ | exact zrg_max (by assumption) (hA _ _) | (constructor <;> omega)) (fun hc => ?_) (fun hc => ?_)
          ·
            refine xg_step rfl rfl (fun k => rfl) ?_
            refine xg_step rfl rfl (fun k => rfl) ?_
            refine xg_step rfl rfl (fun k => rfl) ?_
            refine xg_step rfl rfl (fun k => rfl) ?_
            refine xg_step rfl rfl (fun k => rfl) ?_
            refine xg_step rfl rfl (fun k => rfl) ?_
            refine xg_step rfl rfl (fun k => rfl) ?_
            refine xg_step rfl rfl (fun k => rfl) ?_
            refine xg_step rfl rfl (fun k => rfl) ?_
            refine xg_step rfl rfl (fun k => rfl) ?_
            refine xg_step rfl rfl (fun k => rfl) ?_
            refine xg_step rfl rfl (fun k => rfl) ?_
            refine zg_cvi rfl rfl rfl (Nat.le_of_ble_eq_true rfl) (zha (by decide)) zc_RefM rfl rfl zq_132t ?_
            rw [zup_zup]
            refine xg_step rfl rfl (fun k => rfl) ?_
            refine xg_step rfl rfl (fun k => rfl) ?_
            refine zg_iret rfl rfl zfitI ?_
            first | rfl | exact (by simp only [zCS] at h3; omega : False).elim
          ·
            refine xg_step rfl rfl (fun k => rfl) ?_
            refine zg_bi rfl (by decide) ?_
            refine zg_lt rfl rfl (fun x y k => rfl) (by first | assumption | exact hA _ _ | exact hB _ _ | exact hC _ _ | exact zrg_max (by assumption) (hA _ _) | (constructor <;> omega)) (by first | assumption | exact hA _ _ | exact hB _ _ | exact hC _ _ | exact zrg_max (by assumption) (hA _ _) | (constructor <;> omega)) (fun hc => ?_) (fun hc => ?_)
            ·
              refine xg_step rfl rfl (fun k => rfl) ?_
              refine xg_step rfl rfl (fun k => rfl) ?_
              refine zg_eq rfl rfl (fun x y k => rfl) (by first | assumption | exact hA _ _ | exact hB _ _ | exact hC _ _ | exact zrg_max (by assumption) (hA _ _) | (constructor <;> omega)) (by first | assumption | exact hA _ _ | exact hB _ _ | exact hC _ _ | exact zrg_max (by assumption) (hA _ _) | (constructor <;> omega)) (fun hc => ?_) (fun hc => ?_)
              ·
                refine xg_step rfl rfl (fun k => rfl) ?_
                refine zg_lt0 rfl rfl (fun x k => rfl) (by first | assumption | exact hA _ _ | exact hB _ _ | exact hC _ _ | exact zrg_max (by assumption) (hA _ _) | (constructor <;> omega)) (fun hc => ?_) (fun hc => ?_)
                ·
                  refine xg_step rfl rfl (fun k => rfl) ?_
                  refine xg_step rfl rfl (fun k => rfl) ?_
                  refine xg_step rfl rfl (fun k => rfl) ?_
                  refine xg_step rfl rfl (fun k => rfl) ?_
                  refine xg_step rfl rfl (fun k => rfl) ?_
                  refine xg_step rfl rfl (fun k => rfl) ?_
                  refine xg_step rfl rfl (fun k => rfl) ?_
                  refine xg_step rfl rfl (fun k => rfl) ?_
                  refine xg_step rfl rfl (fun k => rfl) ?_
                  refine xg_step rfl rfl (fun k => rfl) ?_
                  refine xg_step rfl rfl (fun k => rfl) ?_
                  refine xg_step rfl rfl (fun k => rfl) ?_
                  refine zg_cvi rfl rfl rfl (Nat.le_of_ble_eq_true rfl) (zha (by decide)) zc_RefM rfl rfl zq_132t ?_
                  rw [zup_zup]
                  refine xg_step rfl rfl (fun k => rfl) ?_
                  refine xg_step rfl rfl (fun k => rfl) ?_
                  refine zg_iret rfl rfl zfitI ?_
                  first | rfl | exact (by simp only [zCS] at h3; omega : False).elim
                ·
                  refine xg_step rfl rfl (fun k => rfl) ?_
                  refine zg_si rfl (by decide) ?_
                  refine zg_gt rfl rfl (fun x y k => rfl) (by first | assumption | exact hA _ _ | exact hB _ _ | exact hC _ _ | exact zrg_max (by assumption) (hA _ _) | (constructor <;> omega)) (by first | assumption | exact hA _ _ | exact hB _ _ | exact hC _ _ | exact zrg_max (by assumption) (hA _ _) | (constructor <;> omega)) (fun hc => ?_) (fun hc => ?_)
                  ·
                    refine xg_step rfl rfl (fun k => rfl) ?_
                    refine xg_step rfl rfl (fun k => rfl) ?_
                    refine xg_step rfl rfl (fun k => rfl) ?_
                    refine xg_step rfl rfl (fun k => rfl) ?_
                    refine xg_step rfl rfl (fun k => rfl) ?_
                    refine xg_step rfl rfl (fun k => rfl) ?_
                    refine xg_step rfl rfl (fun k => rfl) ?_
                    refine xg_step rfl rfl (fun k => rfl) ?_
                    refine xg_step rfl rfl (fun k => rfl) ?_
                    refine xg_step rfl rfl (fun k => rfl) ?_
                    refine xg_step rfl rfl (fun k => rfl) ?_
                    refine xg_step rfl rfl (fun k => rfl) ?_
                    refine zg_cvi rfl rfl rfl (Nat.le_of_ble_eq_true rfl) (zha (by decide)) zc_RefM rfl rfl zq_132t ?_
                    rw [zup_zup]
                    refine xg_step rfl rfl (fun k => rfl) ?_
                    refine xg_step rfl rfl (fun k => rfl) ?_
                    refine zg_iret rfl rfl zfitI ?_
                    first | rfl | exact (by simp only [zCS] at h3; omega : False).elim
                  ·
                    refine xg_step rfl rfl (fun k => rfl) ?_
                    refine zg_lt0 rfl rfl (fun x k => rfl) (by first | assumption | exact hA _ _ | exact hB _ _ | exact hC _ _ | exact zrg_max (by assumption) (hA _ _) | (constructor <;> omega)) (fun hc => ?_) (fun hc => ?_)
                    ·
                      refine xg_step rfl rfl (fun k => rfl) ?_
                      refine xg_step rfl rfl (fun k => rfl) ?_
                      refine xg_step rfl rfl (fun k => rfl) ?_
                      refine xg_step rfl rfl (fun k => rfl) ?_
                      refine xg_step rfl rfl (fun k => rfl) ?_
                      refine xg_step rfl rfl (fun k => rfl) ?_
                      refine xg_step rfl rfl (fun k => rfl) ?_
                      refine xg_step rfl rfl (fun k => rfl) ?_
                      refine xg_step rfl rfl (fun k => rfl) ?_
                      refine xg_step rfl rfl (fun k => rfl) ?_
                      refine xg_step rfl rfl (fun k => rfl) ?_
                      refine xg_step rfl rfl (fun k => rfl) ?_
                      refine zg_cvi rfl rfl rfl (Nat.le_of_ble_eq_true rfl) (zha (by decide)) zc_RefM rfl rfl zq_132t ?_
                      rw [zup_zup]
                      refine xg_step rfl rfl (fun k => rfl) ?_
                      refine xg_step rfl rfl (fun k => rfl) ?_
                      refine zg_iret rfl rfl zfitI ?_
                      first | rfl | exact (by simp only [zCS] at h3; omega : False).elim
                    ·
                      refine xg_step rfl rfl (fun k => rfl) ?_
                      refine zg_si rfl (by decide) ?_
                      refine zg_gt rfl rfl (fun x y k => rfl) (by first | assumption | exact hA _ _ | exact hB _ _ | exact hC _ _ | exact zrg_max (by assumption) (hA _ _) | (constructor <;> omega)) (by first | assumption | exact hA _ _ | exact hB _ _ | exact hC _ _ | exact zrg_max (by assumption) (hA _ _) | (constructor <;> omega)) (fun hc => ?_) (fun hc => ?_)
                      ·
                        refine xg_step rfl rfl (fun k => rfl) ?_
                        refine xg_step rfl rfl (fun k => rfl) ?_
                        refine xg_step rfl rfl (fun k => rfl) ?_
                        refine xg_step rfl rfl (fun k => rfl) ?_
                        refine xg_step rfl rfl (fun k => rfl) ?_
                        refine xg_step rfl rfl (fun k => rfl) ?_
                        refine xg_step rfl rfl (fun k => rfl) ?_
                        refine xg_step rfl rfl (fun k => rfl) ?_
                        refine xg_step rfl rfl (fun k => rfl) ?_
                        refine xg_step rfl rfl (fun k => rfl) ?_
                        refine xg_step rfl rfl (fun k => rfl) ?_
                        refine xg_step rfl rfl (fun k => rfl) ?_
                        refine zg_cvi rfl rfl rfl (Nat.le_of_ble_eq_true rfl) (zha (by decide)) zc_RefM rfl rfl zq_132t ?_
                        rw [zup_zup]
                        refine xg_step rfl rfl (fun k => rfl) ?_
                        refine xg_step rfl rfl (fun k => rfl) ?_
                        refine zg_iret rfl rfl zfitI ?_
                        first | rfl | exact (by simp only [zCS] at h3; omega : False).elim
                      ·
                        refine xg_step rfl rfl (fun k => rfl) ?_
                        refine xg_step rfl rfl (fun k => rfl) ?_
                        refine xg_step rfl rfl (fun k => rfl) ?_
                        refine xg_step rfl rfl (fun k => rfl) ?_
                        refine xg_step rfl rfl (fun k => rfl) ?_
                        refine xg_step rfl rfl (fun k => rfl) ?_
                        refine xg_step rfl rfl (fun k => rfl) ?_
                        refine zg_eq0 rfl rfl (fun x k => rfl) (by first | assumption | exact hA _ _ | exact hB _ _ | exact hC _ _ | exact zrg_max (by assumption) (hA _ _) | (constructor <;> omega)) (fun hc => ?_) (fun hc => ?_)
                        ·
                          refine xg_step rfl rfl (fun k => rfl) ?_
                          refine xg_step rfl rfl (fun k => rfl) ?_
                          refine zg_cvb rfl rfl rfl (Nat.le_of_ble_eq_true rfl) (zha (by decide)) zc_RefM rfl rfl (zq_131 hB (zRg_up hC (by first | assumption | exact hA _ _ | exact hB _ _ | exact hC _ _ | exact zrg_max (by assumption) (hA _ _) | (constructor <;> omega))) (by first | assumption | exact hA _ _ | exact hB _ _ | exact hC _ _ | exact zrg_max (by assumption) (hA _ _) | (constructor <;> omega))) (fun hc => ?_) (fun hc => ?_)
                          ·
                            refine xg_step rfl rfl (fun k => rfl) ?_
                            refine xg_step rfl rfl (fun k => rfl) ?_
                            refine xg_step rfl rfl (fun k => rfl) ?_
                            refine zg_eq rfl rfl (fun x y k => rfl) (by first | assumption | exact hA _ _ | exact hB _ _ | exact hC _ _ | exact zrg_max (by assumption) (hA _ _) | (constructor <;> omega)) (by first | assumption | exact hA _ _ | exact hB _ _ | exact hC _ _ | exact zrg_max (by assumption) (hA _ _) | (constructor <;> omega)) (fun hc => ?_) (fun hc => ?_)
                            ·
                              refine xg_step rfl rfl (fun k => rfl) ?_
                              refine zg_lt0 rfl rfl (fun x k => rfl) (by first | assumption | exact hA _ _ | exact hB _ _ | exact hC _ _ | exact zrg_max (by assumption) (hA _ _) | (constructor <;> omega)) (fun hc => ?_) (fun hc => ?_)
                              ·
                                refine xg_step rfl rfl (fun k => rfl) ?_
                                refine xg_step rfl rfl (fun k => rfl) ?_
                                refine xg_step rfl rfl (fun k => rfl) ?_
                                refine xg_step rfl rfl (fun k => rfl) ?_
                                refine xg_step rfl rfl (fun k => rfl) ?_
                                refine xg_step rfl rfl (fun k => rfl) ?_
                                refine xg_step rfl rfl (fun k => rfl) ?_
                                refine xg_step rfl rfl (fun k => rfl) ?_
                                refine zg_cvi rfl rfl rfl (Nat.le_of_ble_eq_true rfl) (zha (by decide)) zc_RefM rfl rfl zq_132t ?_
                                rw [zup_zup]
                                refine xg_step rfl rfl (fun k => rfl) ?_
                                refine xg_step rfl rfl (fun k => rfl) ?_
                                refine zg_iret rfl rfl zfitI ?_
                                first | rfl | exact (by simp only [zCS] at h3; omega : False).elim
                              ·
                                refine xg_step rfl rfl (fun k => rfl) ?_
                                refine zg_si rfl (by decide) ?_
                                refine zg_gt rfl rfl (fun x y k => rfl) (by first | assumption | exact hA _ _ | exact hB _ _ | exact hC _ _ | exact zrg_max (by assumption) (hA _ _) | (constructor <;> omega)) (by first | assumption | exact hA _ _ | exact hB _ _ | exact hC _ _ | exact zrg_max (by assumption) (hA _ _) | (constructor <;> omega)) (fun hc => ?_) (fun hc => ?_)
                                ·
                                  refine xg_step rfl rfl (fun k => rfl) ?_
                                  refine xg_step rfl rfl (fun k => rfl) ?_
                                  refine xg_step rfl rfl (fun k => rfl) ?_
                                  refine xg_step rfl rfl (fun k => rfl) ?_
                                  refine xg_step rfl rfl (fun k => rfl) ?_
                                  refine xg_step rfl rfl (fun k => rfl) ?_
                                  refine xg_step rfl rfl (fun k => rfl) ?_
                                  refine xg_step rfl rfl (fun k => rfl) ?_
                                  refine zg_cvi rfl rfl rfl (Nat.le_of_ble_eq_true rfl) (zha (by decide)) zc_RefM rfl rfl zq_132t ?_
                                  rw [zup_zup]
                                  refine xg_step rfl rfl (fun k => rfl) ?_
                                  refine xg_step rfl rfl (fun k => rfl) ?_
                                  refine zg_iret rfl rfl zfitI ?_
                                  first | rfl | exact (by simp only [zCS] at h3; omega : False).elim
                                ·
                                  refine xg_step rfl rfl (fun k => rfl) ?_
                                  refine xg_step rfl rfl (fun k => rfl) ?_
                                  refine zg_eq rfl rfl (fun x y k => rfl) (by first | assumption | exact hA _ _ | exact hB _ _ | exact hC _ _ | exact zrg_max (by assumption) (hA _ _) | (constructor <;> omega)) (by first | assumption | exact hA _ _ | exact hB _ _ | exact hC _ _ | exact zrg_max (by assumption) (hA _ _) | (constructor <;> omega)) (fun hc => ?_) (fun hc => ?_)
                                  ·
                                    refine xg_step rfl rfl (fun k => rfl) ?_
                                    refine zg_eq0 rfl rfl (fun x k => rfl) (by first | assumption | exact hA _ _ | exact hB _ _ | exact hC _ _ | exact zrg_max (by assumption) (hA _ _) | (constructor <;> omega)) (fun hc => ?_) (fun hc => ?_)
                                    ·
                                      refine xg_step rfl rfl (fun k => rfl) ?_
                                      refine xg_step rfl rfl (fun k => rfl) ?_
                                      refine xg_step rfl rfl (fun k => rfl) ?_
                                      refine xg_step rfl rfl (fun k => rfl) ?_
                                      refine xg_step rfl rfl (fun k => rfl) ?_
                                      refine xg_step rfl rfl (fun k => rfl) ?_
                                      refine xg_step rfl rfl (fun k => rfl) ?_
                                      refine xg_step rfl rfl (fun k => rfl) ?_
                                      refine zg_cvi rfl rfl rfl (Nat.le_of_ble_eq_true rfl) (zha (by decide)) zc_RefM rfl rfl zq_132f ?_
                                      rw [zup_zup]
                                      refine xg_step rfl rfl (fun k => rfl) ?_
                                      exact (h3 ⟨by omega, by omega, by simp only [zCS]; omega, by simp only [zCS]; omega⟩).elim
                                    ·
                                      refine xg_step rfl rfl (fun k => rfl) ?_
                                      refine xg_step rfl rfl (fun k => rfl) ?_
                                      refine xg_step rfl rfl (fun k => rfl) ?_
                                      refine xg_step rfl rfl (fun k => rfl) ?_
                                      refine xg_step rfl rfl (fun k => rfl) ?_
                                      refine xg_step rfl rfl (fun k => rfl) ?_
                                      refine xg_step rfl rfl (fun k => rfl) ?_
                                      refine xg_step rfl rfl (fun k => rfl) ?_
                                      refine zg_cvi rfl rfl rfl (Nat.le_of_ble_eq_true rfl) (zha (by decide)) zc_RefM rfl rfl zq_132t ?_
                                      rw [zup_zup]
                                      refine xg_step rfl rfl (fun k => rfl) ?_
                                      refine xg_step rfl rfl (fun k => rfl) ?_
                                      refine zg_iret rfl rfl zfitI ?_
                                      first | rfl | exact (by simp only [zCS] at h3; omega : False).elim
                                  ·
                                    refine xg_step rfl rfl (fun k => rfl) ?_
                                    refine xg_step rfl rfl (fun k => rfl) ?_
                                    refine xg_step rfl rfl (fun k => rfl) ?_
                                    refine xg_step rfl rfl (fun k => rfl) ?_
                                    refine xg_step rfl rfl (fun k => rfl) ?_
                                    refine xg_step rfl rfl (fun k => rfl) ?_
                                    refine xg_step rfl rfl (fun k => rfl) ?_
                                    refine xg_step rfl rfl (fun k => rfl) ?_
                                    refine zg_cvi rfl rfl rfl (Nat.le_of_ble_eq_true rfl) (zha (by decide)) zc_RefM rfl rfl zq_132f ?_
                                    rw [zup_zup]
                                    refine xg_step rfl rfl (fun k => rfl) ?_
                                    exact (h3 ⟨by omega, by omega, by simp only [zCS]; omega, by simp only [zCS]; omega⟩).elim
                            ·
                              refine xg_step rfl rfl (fun k => rfl) ?_
                              refine xg_step rfl rfl (fun k => rfl) ?_
                              refine zg_eq rfl rfl (fun x y k => rfl) (by first | assumption | exact hA _ _ | exact hB _ _ | exact hC _ _ | exact zrg_max (by assumption) (hA _ _) | (constructor <;> omega)) (by first | assumption | exact hA _ _ | exact hB _ _ | exact hC _ _ | exact zrg_max (by assumption) (hA _ _) | (constructor <;> omega)) (fun hc => ?_) (fun hc => ?_)
                              ·
                                refine xg_step rfl rfl (fun k => rfl) ?_
                                refine zg_eq0 rfl rfl (fun x k => rfl) (by first | assumption | exact hA _ _ | exact hB _ _ | exact hC _ _ | exact zrg_max (by assumption) (hA _ _) | (constructor <;> omega)) (fun hc => ?_) (fun hc => ?_)
                                ·
                                  refine xg_step rfl rfl (fun k => rfl) ?_
                                  refine xg_step rfl rfl (fun k => rfl) ?_
                                  refine xg_step rfl rfl (fun k => rfl) ?_
                                  refine xg_step rfl rfl (fun k => rfl) ?_
                                  refine xg_step rfl rfl (fun k => rfl) ?_
                                  refine xg_step rfl rfl (fun k => rfl) ?_
                                  refine xg_step rfl rfl (fun k => rfl) ?_
                                  refine xg_step rfl rfl (fun k => rfl) ?_
                                  refine zg_cvi rfl rfl rfl (Nat.le_of_ble_eq_true rfl) (zha (by decide)) zc_RefM rfl rfl zq_132f ?_
                                  rw [zup_zup]
                                  refine xg_step rfl rfl (fun k => rfl) ?_
                                  exact (h3 ⟨by omega, by omega, by simp only [zCS]; omega, by simp only [zCS]; omega⟩).elim
                                ·
                                  refine xg_step rfl rfl (fun k => rfl) ?_
                                  refine xg_step rfl rfl (fun k => rfl) ?_
                                  refine xg_step rfl rfl (fun k => rfl) ?_
                                  refine xg_step rfl rfl (fun k => rfl) ?_
                                  refine xg_step rfl rfl (fun k => rfl) ?_
                                  refine xg_step rfl rfl (fun k => rfl) ?_
                                  refine xg_step rfl rfl (fun k => rfl) ?_
                                  refine xg_step rfl rfl (fun k => rfl) ?_
                                  refine zg_cvi rfl rfl rfl (Nat.le_of_ble_eq_true rfl) (zha (by decide)) zc_RefM rfl rfl zq_132t ?_
                                  rw [zup_zup]
                                  refine xg_step rfl rfl (fun k => rfl) ?_
                                  refine xg_step rfl rfl (fun k => rfl) ?_
                                  refine zg_iret rfl rfl zfitI ?_
                                  first | rfl | exact (by simp only [zCS] at h3; omega : False).elim
                              ·
                                refine xg_step rfl rfl (fun k => rfl) ?_
                                refine xg_step rfl rfl (fun k => rfl) ?_
                                refine xg_step rfl rfl (fun k => rfl) ?_
                                refine xg_step rfl rfl (fun k => rfl) ?_
                                refine xg_step rfl rfl (fun k => rfl) ?_
                                refine xg_step rfl rfl (fun k => rfl) ?_
                                refine xg_step rfl rfl (fun k => rfl) ?_
                                refine xg_step rfl rfl (fun k => rfl) ?_
                                refine zg_cvi rfl rfl rfl (Nat.le_of_ble_eq_true rfl) (zha (by decide)) zc_RefM rfl rfl zq_132f ?_
                                rw [zup_zup]
                                refine xg_step rfl rfl (fun k => rfl) ?_
                                exact (h3 ⟨by omega, by omega, by simp only [zCS]; omega, by simp only [zCS]; omega⟩).elim
                          ·
                            refine xg_step rfl rfl (fun k => rfl) ?_
                            refine xg_step rfl rfl (fun k => rfl) ?_
                            refine xg_step rfl rfl (fun k => rfl) ?_
                            refine xg_step rfl rfl (fun k => rfl) ?_
                            refine xg_step rfl rfl (fun k => rfl) ?_
                            refine xg_step rfl rfl (fun k => rfl) ?_
                            refine xg_step rfl rfl (fun k => rfl) ?_
                            refine xg_step rfl rfl (fun k => rfl) ?_
                            refine xg_step rfl rfl (fun k => rfl) ?_
                            refine zg_cvi rfl rfl rfl (Nat.le_of_ble_eq_true rfl) (zha (by decide)) zc_RefM rfl rfl zq_132t ?_
                            rw [zup_zup]
                            refine xg_step rfl rfl (fun k => rfl) ?_
                            refine xg_step rfl rfl (fun k => rfl) ?_
                            refine zg_iret rfl rfl zfitI ?_
                            first | rfl | exact (by simp only [zCS] at h3; omega : False).elim
                        ·
                          refine xg_step rfl rfl (fun k => rfl) ?_
                          refine xg_step rfl rfl (fun k => rfl) ?_
                          refine zg_eq rfl rfl (fun x y k => rfl) (by first | assumption | exact hA _ _ | exact hB _ _ | exact hC _ _ | exact zrg_max (by assumption) (hA _ _) | (constructor <;> omega)) (by first | assumption | exact hA _ _ | exact hB _ _ | exact hC _ _ | exact zrg_max (by assumption) (hA _ _) | (constructor <;> omega)) (fun hc => ?_) (fun hc => ?_)
                          ·
                            refine xg_step rfl rfl (fun k => rfl) ?_
                            refine zg_lt0 rfl rfl (fun x k => rfl) (by first | assumption | exact hA _ _ | exact hB _ _ | exact hC _ _ | exact zrg_max (by assumption) (hA _ _) | (constructor <;> omega)) (fun hc => ?_) (fun hc => ?_)
                            ·
                              refine xg_step rfl rfl (fun k => rfl) ?_
                              refine xg_step rfl rfl (fun k => rfl) ?_
                              refine xg_step rfl rfl (fun k => rfl) ?_
                              refine xg_step rfl rfl (fun k => rfl) ?_
                              refine xg_step rfl rfl (fun k => rfl) ?_
                              refine xg_step rfl rfl (fun k => rfl) ?_
                              refine xg_step rfl rfl (fun k => rfl) ?_
                              refine xg_step rfl rfl (fun k => rfl) ?_
                              refine zg_cvi rfl rfl rfl (Nat.le_of_ble_eq_true rfl) (zha (by decide)) zc_RefM rfl rfl zq_132t ?_
                              rw [zup_zup]
                              refine xg_step rfl rfl (fun k => rfl) ?_
                              refine xg_step rfl rfl (fun k => rfl) ?_
                              refine zg_iret rfl rfl zfitI ?_
                              first | rfl | exact (by simp only [zCS] at h3; omega : False).elim
                            ·
                              refine xg_step rfl rfl (fun k => rfl) ?_
                              refine zg_si rfl (by decide) ?_
                              refine zg_gt rfl rfl (fun x y k => rfl) (by first | assumption | exact hA _ _ | exact hB _ _ | exact hC _ _ | exact zrg_max (by assumption) (hA _ _) | (constructor <;> omega)) (by first | assumption | exact hA _ _ | exact hB _ _ | exact hC _ _ | exact zrg_max (by assumption) (hA _ _) | (constructor <;> omega)) (fun hc => ?_) (fun hc => ?_)
                              ·
                                refine xg_step rfl rfl (fun k => rfl) ?_
                                refine xg_step rfl rfl (fun k => rfl) ?_
                                refine xg_step rfl rfl (fun k => rfl) ?_
                                refine xg_step rfl rfl (fun k => rfl) ?_
                                refine xg_step rfl rfl (fun k => rfl) ?_
                                refine xg_step rfl rfl (fun k => rfl) ?_
                                refine xg_step rfl rfl (fun k => rfl) ?_
                                refine xg_step rfl rfl (fun k => rfl) ?_
                                refine zg_cvi rfl rfl rfl (Nat.le_of_ble_eq_true rfl) (zha (by decide)) zc_RefM rfl rfl zq_132t ?_
                                rw [zup_zup]
                                refine xg_step rfl rfl (fun k => rfl) ?_
                                refine xg_step rfl rfl (fun k => rfl) ?_
                                refine zg_iret rfl rfl zfitI ?_
                                first | rfl | exact (by simp only [zCS] at h3; omega : False).elim
                              ·
                                refine xg_step rfl rfl (fun k => rfl) ?_
                                refine xg_step rfl rfl (fun k => rfl) ?_
                                refine zg_eq rfl rfl (fun x y k => rfl) (by first | assumption | exact hA _ _ | exact hB _ _ | exact hC _ _ | exact zrg_max (by assumption) (hA _ _) | (constructor <;> omega)) (by first | assumption | exact hA _ _ | exact hB _ _ | exact hC _ _ | exact zrg_max (by assumption) (hA _ _) | (constructor <;> omega)) (fun hc => ?_) (fun hc => ?_)
                                ·
                                  refine xg_step rfl rfl (fun k => rfl) ?_
                                  refine zg_eq0 rfl rfl (fun x k => rfl) (by first | assumption | exact hA _ _ | exact hB _ _ | exact hC _ _ | exact zrg_max (by assumption) (hA _ _) | (constructor <;> omega)) (fun hc => ?_) (fun hc => ?_)
                                  ·
                                    refine xg_step rfl rfl (fun k => rfl) ?_
                                    refine xg_step rfl rfl (fun k => rfl) ?_
                                    refine xg_step rfl rfl (fun k => rfl) ?_
                                    refine xg_step rfl rfl (fun k => rfl) ?_
                                    refine xg_step rfl rfl (fun k => rfl) ?_
                                    refine xg_step rfl rfl (fun k => rfl) ?_
                                    refine xg_step rfl rfl (fun k => rfl) ?_
                                    refine xg_step rfl rfl (fun k => rfl) ?_
                                    refine zg_cvi rfl rfl rfl (Nat.le_of_ble_eq_true rfl) (zha (by decide)) zc_RefM rfl rfl zq_132f ?_
                                    rw [zup_zup]
                                    refine xg_step rfl rfl (fun k => rfl) ?_
                                    exact (h3 ⟨by omega, by omega, by simp only [zCS]; omega, by simp only [zCS]; omega⟩).elim
                                  ·
                                    refine xg_step rfl rfl (fun k => rfl) ?_
                                    refine xg_step rfl rfl (fun k => rfl) ?_
                                    refine xg_step rfl rfl (fun k => rfl) ?_
                                    refine xg_step rfl rfl (fun k => rfl) ?_
                                    refine xg_step rfl rfl (fun k => rfl) ?_
                                    refine xg_step rfl rfl (fun k => rfl) ?_
                                    refine xg_step rfl rfl (fun k => rfl) ?_
                                    refine xg_step rfl rfl (fun k => rfl) ?_
                                    refine zg_cvi rfl rfl rfl (Nat.le_of_ble_eq_true rfl) (zha (by decide)) zc_RefM rfl rfl zq_132t ?_
                                    rw [zup_zup]
                                    refine xg_step rfl rfl (fun k => rfl) ?_
                                    refine xg_step rfl rfl (fun k => rfl) ?_
                                    refine zg_iret rfl rfl zfitI ?_
                                    first | rfl | exact (by simp only [zCS] at h3; omega : False).elim
                                ·
                                  refine xg_step rfl rfl (fun k => rfl) ?_
                                  refine xg_step rfl rfl (fun k => rfl) ?_
                                  refine xg_step rfl rfl (fun k => rfl) ?_
                                  refine xg_step rfl rfl (fun k => rfl) ?_
                                  refine xg_step rfl rfl (fun k => rfl) ?_
                                  refine xg_step rfl rfl (fun k => rfl) ?_
                                  refine xg_step rfl rfl (fun k => rfl) ?_
                                  refine xg_step rfl rfl (fun k => rfl) ?_
                                  refine zg_cvi rfl rfl rfl (Nat.le_of_ble_eq_true rfl) (zha (by decide)) zc_RefM rfl rfl zq_132f ?_
                                  rw [zup_zup]
                                  refine xg_step rfl rfl (fun k => rfl) ?_
                                  exact (h3 ⟨by omega, by omega, by simp only [zCS]; omega, by simp only [zCS]; omega⟩).elim
                          ·
                            refine xg_step rfl rfl (fun k => rfl) ?_
                            refine xg_step rfl rfl (fun k => rfl) ?_
                            refine zg_eq rfl rfl (fun x y k => rfl) (by first | assumption | exact hA _ _ | exact hB _ _ | exact hC _ _ | exact zrg_max (by assumption) (hA _ _) | (constructor <;> omega)) (by first | assumption | exact hA _ _ | exact hB _ _ | exact hC _ _ | exact zrg_max (by assumption) (hA _ _) | (constructor <;> omega)) (fun hc => ?_) (fun hc => ?_)
                            ·
                              refine xg_step rfl rfl (fun k => rfl) ?_
                              refine zg_eq0 rfl rfl (fun x k => rfl) (by first | assumption | exact hA _ _ | exact hB _ _ | exact hC _ _ | exact zrg_max (by assumption) (hA _ _) | (constructor <;> omega)) (fun hc => ?_) (fun hc => ?_)
                              ·
                                refine xg_step rfl rfl (fun k => rfl) ?_
                                refine xg_step rfl rfl (fun k => rfl) ?_
                                refine xg_step rfl rfl (fun k => rfl) ?_
                                refine xg_step rfl rfl (fun k => rfl) ?_
                                refine xg_step rfl rfl (fun k => rfl) ?_
                                refine xg_step rfl rfl (fun k => rfl) ?_
                                refine xg_step rfl rfl (fun k => rfl) ?_
                                refine xg_step rfl rfl (fun k => rfl) ?_
                                refine zg_cvi rfl rfl rfl (Nat.le_of_ble_eq_true rfl) (zha (by decide)) zc_RefM rfl rfl zq_132f ?_
                                rw [zup_zup]
                                refine xg_step rfl rfl (fun k => rfl) ?_
                                exact (h3 ⟨by omega, by omega, by simp only [zCS]; omega, by simp only [zCS]; omega⟩).elim
                              ·
                                refine xg_step rfl rfl (fun k => rfl) ?_
                                refine xg_step rfl rfl (fun k => rfl) ?_
                                refine xg_step rfl rfl (fun k => rfl) ?_
                                refine xg_step rfl rfl (fun k => rfl) ?_
                                refine xg_step rfl rfl (fun k => rfl) ?_
                                refine xg_step rfl rfl (fun k => rfl) ?_
                                refine xg_step rfl rfl (fun k => rfl) ?_
                                refine xg_step rfl rfl (fun k => rfl) ?_
                                refine zg_cvi rfl rfl rfl (Nat.le_of_ble_eq_true rfl) (zha (by decide)) zc_RefM rfl rfl zq_132t ?_
                                rw [zup_zup]
                                refine xg_step rfl rfl (fun k => rfl) ?_
                                refine xg_step rfl rfl (fun k => rfl) ?_
                                refine zg_iret rfl rfl zfitI ?_
                                first | rfl | exact (by simp only [zCS] at h3; omega : False).elim
                            ·
                              refine xg_step rfl rfl (fun k => rfl) ?_
                              refine xg_step rfl rfl (fun k => rfl) ?_
                              refine xg_step rfl rfl (fun k => rfl) ?_
                              refine xg_step rfl rfl (fun k => rfl) ?_
                              refine xg_step rfl rfl (fun k => rfl) ?_
                              refine xg_step rfl rfl (fun k => rfl) ?_
                              refine xg_step rfl rfl (fun k => rfl) ?_
                              refine xg_step rfl rfl (fun k => rfl) ?_
                              refine zg_cvi rfl rfl rfl (Nat.le_of_ble_eq_true rfl) (zha (by decide)) zc_RefM rfl rfl zq_132f ?_
                              rw [zup_zup]
                              refine xg_step rfl rfl (fun k => rfl) ?_
                              exact (h3 ⟨by omega, by omega, by simp only [zCS]; omega, by simp only [zCS]; omega⟩).elim
              ·
                refine xg_step rfl rfl (fun k => rfl) ?_
                refine zg_eq0 rfl rfl (fun x k => rfl) (by first | assumption | exact hA _ _ | exact hB _ _ | exact hC _ _ | exact zrg_max (by assumption) (hA _ _) | (constructor <;> omega)) (fun hc => ?_) (fun hc => ?_)
                ·
                  refine xg_step rfl rfl (fun k => rfl) ?_
                  refine xg_step rfl rfl (fun k => rfl) ?_
                  refine xg_step rfl rfl (fun k => rfl) ?_
                  refine xg_step rfl rfl (fun k => rfl) ?_
                  refine xg_step rfl rfl (fun k => rfl) ?_
                  refine xg_step rfl rfl (fun k => rfl) ?_
                  refine zg_eq0 rfl rfl (fun x k => rfl) (by first | assumption | exact hA _ _ | exact hB _ _ | exact hC _ _ | exact zrg_max (by assumption) (hA _ _) | (constructor <;> omega)) (fun hc => ?_) (fun hc => ?_)
                  ·
                    refine xg_step rfl rfl (fun k => rfl) ?_
                    refine xg_step rfl rfl (fun k => rfl) ?_
                    refine zg_cvb rfl rfl rfl (Nat.le_of_ble_eq_true rfl) (zha (by decide)) zc_RefM rfl rfl (zq_131 hB (zRg_up hC (by first | assumption | exact hA _ _ | exact hB _ _ | exact hC _ _ | exact zrg_max (by assumption) (hA _ _) | (constructor <;> omega))) (by first | assumption | exact hA _ _ | exact hB _ _ | exact hC _ _ | exact zrg_max (by assumption) (hA _ _) | (constructor <;> omega))) (fun hc => ?_) (fun hc => ?_)
                    ·
                      refine xg_step rfl rfl (fun k => rfl) ?_
                      refine xg_step rfl rfl (fun k => rfl) ?_
                      refine xg_step rfl rfl (fun k => rfl) ?_
                      refine zg_eq rfl rfl (fun x y k => rfl) (by first | assumption | exact hA _ _ | exact hB _ _ | exact hC _ _ | exact zrg_max (by assumption) (hA _ _) | (constructor <;> omega)) (by first | assumption | exact hA _ _ | exact hB _ _ | exact hC _ _ | exact zrg_max (by assumption) (hA _ _) | (constructor <;> omega)) (fun hc => ?_) (fun hc => ?_)
                      ·
                        refine xg_step rfl rfl (fun k => rfl) ?_
                        refine zg_lt0 rfl rfl (fun x k => rfl) (by first | assumption | exact hA _ _ | exact hB _ _ | exact hC _ _ | exact zrg_max (by assumption) (hA _ _) | (constructor <;> omega)) (fun hc => ?_) (fun hc => ?_)
                        ·
                          refine xg_step rfl rfl (fun k => rfl) ?_
                          refine xg_step rfl rfl (fun k => rfl) ?_
                          refine xg_step rfl rfl (fun k => rfl) ?_
                          refine xg_step rfl rfl (fun k => rfl) ?_
                          refine xg_step rfl rfl (fun k => rfl) ?_
                          refine xg_step rfl rfl (fun k => rfl) ?_
                          refine xg_step rfl rfl (fun k => rfl) ?_
                          refine xg_step rfl rfl (fun k => rfl) ?_
                          refine zg_cvi rfl rfl rfl (Nat.le_of_ble_eq_true rfl) (zha (by decide)) zc_RefM rfl rfl zq_132t ?_
                          rw [zup_zup]
                          refine xg_step rfl rfl (fun k => rfl) ?_
                          refine xg_step rfl rfl (fun k => rfl) ?_
                          refine zg_iret rfl rfl zfitI ?_
                          first | rfl | exact (by simp only [zCS] at h3; omega : False).elim
                        ·
                          refine xg_step rfl rfl (fun k => rfl) ?_
                          refine zg_si rfl (by decide) ?_
                          refine zg_gt rfl rfl (fun x y k => rfl) (by first | assumption | exact hA _ _ | exact hB _ _ | exact hC _ _ | exact zrg_max (by assumption) (hA _ _) | (constructor <;> omega)) (by first | assumption | exact hA _ _ | exact hB _ _ | exact hC _ _ | exact zrg_max (by assumption) (hA _ _) | (constructor <;> omega)) (fun hc => ?_) (fun hc => ?_)
                          ·
                            refine xg_step rfl rfl (fun k => rfl) ?_
                            refine xg_step rfl rfl (fun k => rfl) ?_
                            refine xg_step rfl rfl (fun k => rfl) ?_
                            refine xg_step rfl rfl (fun k => rfl) ?_
                            refine xg_step rfl rfl (fun k => rfl) ?_
                            refine xg_step rfl rfl (fun k => rfl) ?_
                            refine xg_step rfl rfl (fun k => rfl) ?_
                            refine xg_step rfl rfl (fun k => rfl) ?_
                            refine zg_cvi rfl rfl rfl (Nat.le_of_ble_eq_true rfl) (zha (by decide)) zc_RefM rfl rfl zq_132t ?_
                            rw [zup_zup]
                            refine xg_step rfl rfl (fun k => rfl) ?_
                            refine xg_step rfl rfl (fun k => rfl) ?_
                            refine zg_iret rfl rfl zfitI ?_
                            first | rfl | exact (by simp only [zCS] at h3; omega : False).elim
                          ·
                            refine xg_step rfl rfl (fun k => rfl) ?_
                            refine xg_step rfl rfl (fun k => rfl) ?_
                            refine zg_eq rfl rfl (fun x y k => rfl) (by first | assumption | exact hA _ _ | exact hB _ _ | exact hC _ _ | exact zrg_max (by assumption) (hA _ _) | (constructor <;> omega)) (by first | assumption | exact hA _ _ | exact hB _ _ | exact hC _ _ | exact zrg_max (by assumption) (hA _ _) | (constructor <;> omega)) (fun hc => ?_) (fun hc => ?_)
                            ·
                              refine xg_step rfl rfl (fun k => rfl) ?_
                              refine zg_eq0 rfl rfl (fun x k => rfl) (by first | assumption | exact hA _ _ | exact hB _ _ | exact hC _ _ | exact zrg_max (by assumption) (hA _ _) | (constructor <;> omega)) (fun hc => ?_) (fun hc => ?_)
                              ·
                                refine xg_step rfl rfl (fun k => rfl) ?_
                                refine xg_step rfl rfl (fun k => rfl) ?_
                                refine xg_step rfl rfl (fun k => rfl) ?_
                                refine xg_step rfl rfl (fun k => rfl) ?_
                                refine xg_step rfl rfl (fun k => rfl) ?_
                                refine xg_step rfl rfl (fun k => rfl) ?_
                                refine xg_step rfl rfl (fun k => rfl) ?_
                                refine xg_step rfl rfl (fun k => rfl) ?_
                                refine zg_cvi rfl rfl rfl (Nat.le_of_ble_eq_true rfl) (zha (by decide)) zc_RefM rfl rfl zq_132f ?_
                                rw [zup_zup]
                                refine xg_step rfl rfl (fun k => rfl) ?_
                                exact (h3 ⟨by omega, by omega, by simp only [zCS]; omega, by simp only [zCS]; omega⟩).elim
                              ·
                                refine xg_step rfl rfl (fun k => rfl) ?_
                                refine xg_step rfl rfl (fun k => rfl) ?_
                                refine xg_step rfl rfl (fun k => rfl) ?_
                                refine xg_step rfl rfl (fun k => rfl) ?_
                                refine xg_step rfl rfl (fun k => rfl) ?_
                                refine xg_step rfl rfl (fun k => rfl) ?_
                                refine xg_step rfl rfl (fun k => rfl) ?_
                                refine xg_step rfl rfl (fun k => rfl) ?_
                                refine zg_cvi rfl rfl rfl (Nat.le_of_ble_eq_true rfl) (zha (by decide)) zc_RefM rfl rfl zq_132t ?_
                                rw [zup_zup]
                                refine xg_step rfl rfl (fun k => rfl) ?_
                                refine xg_step rfl rfl (fun k => rfl) ?_
                                refine zg_iret rfl rfl zfitI ?_
                                first | rfl | exact (by simp only [zCS] at h3; omega : False).elim
                            ·
                              refine xg_step rfl rfl (fun k => rfl) ?_
                              refine xg_step rfl rfl (fun k => rfl) ?_
                              refine xg_step rfl rfl (fun k => rfl) ?_
                              refine xg_step rfl rfl (fun k => rfl) ?_
                              refine xg_step rfl rfl (fun k => rfl) ?_
                              refine xg_step rfl rfl (fun k => rfl) ?_
                              refine xg_step rfl rfl (fun k => rfl) ?_
                              refine xg_step rfl rfl (fun k => rfl) ?_
                              refine zg_cvi rfl rfl rfl (Nat.le_of_ble_eq_true rfl) (zha (by decide)) zc_RefM rfl rfl zq_132f ?_
                              rw [zup_zup]
                              refine xg_step rfl rfl (fun k => rfl) ?_
                              exact (h3 ⟨by omega, by omega, by simp only [zCS]; omega, by simp only [zCS]; omega⟩).elim
                      ·
                        refine xg_step rfl rfl (fun k => rfl) ?_
                        refine xg_step rfl rfl (fun k => rfl) ?_
                        refine zg_eq rfl rfl (fun x y k => rfl) (by first | assumption | exact hA _ _ | exact hB _ _ | exact hC _ _ | exact zrg_max (by assumption) (hA _ _) | (constructor <;> omega)) (by first | assumption | exact hA _ _ | exact hB _ _ | exact hC _ _ | exact zrg_max (by assumption) (hA _ _) | (constructor <;> omega)) (fun hc => ?_) (fun hc => ?_)
                        ·
                          refine xg_step rfl rfl (fun k => rfl) ?_
                          refine zg_eq0 rfl rfl (fun x k => rfl) (by first | assumption | exact hA _ _ | exact hB _ _ | exact hC _ _ | exact zrg_max (by assumption) (hA _ _) | (constructor <;> omega)) (fun hc => ?_) (fun hc => ?_)
                          ·
                            refine xg_step rfl rfl (fun k => rfl) ?_
                            refine xg_step rfl rfl (fun k => rfl) ?_
                            refine xg_step rfl rfl (fun k => rfl) ?_
                            refine xg_step rfl rfl (fun k => rfl) ?_
                            refine xg_step rfl rfl (fun k => rfl) ?_
                            refine xg_step rfl rfl (fun k => rfl) ?_
                            refine xg_step rfl rfl (fun k => rfl) ?_
                            refine xg_step rfl rfl (fun k => rfl) ?_
                            refine zg_cvi rfl rfl rfl (Nat.le_of_ble_eq_true rfl) (zha (by decide)) zc_RefM rfl rfl zq_132f ?_
                            rw [zup_zup]
                            refine xg_step rfl rfl (fun k => rfl) ?_
                            exact (h3 ⟨by omega, by omega, by simp only [zCS]; omega, by simp only [zCS]; omega⟩).elim
                          ·
                            refine xg_step rfl rfl (fun k => rfl) ?_
                            refine xg_step rfl rfl (fun k => rfl) ?_
                            refine xg_step rfl rfl (fun k => rfl) ?_
                            refine xg_step rfl rfl (fun k => rfl) ?_
                            refine xg_step rfl rfl (fun k => rfl) ?_
                            refine xg_step rfl rfl (fun k => rfl) ?_
                            refine xg_step rfl rfl (fun k => rfl) ?_
                            refine xg_step rfl rfl (fun k => rfl) ?_
                            refine zg_cvi rfl rfl rfl (Nat.le_of_ble_eq_true rfl) (zha (by decide)) zc_RefM rfl rfl zq_132t ?_
                            rw [zup_zup]
                            refine xg_step rfl rfl (fun k => rfl) ?_
                            refine xg_step rfl rfl (fun k => rfl) ?_
                            refine zg_iret rfl rfl zfitI ?_
                            first | rfl | exact (by simp only [zCS] at h3; omega : False).elim
                        ·
                          refine xg_step rfl rfl (fun k => rfl) ?_
                          refine xg_step rfl rfl (fun k => rfl) ?_
                          refine xg_step rfl rfl (fun k => rfl) ?_
                          refine xg_step rfl rfl (fun k => rfl) ?_
                          refine xg_step rfl rfl (fun k => rfl) ?_
                          refine xg_step rfl rfl (fun k => rfl) ?_
                          refine xg_step rfl rfl (fun k => rfl) ?_
                          refine xg_step rfl rfl (fun k => rfl) ?_
                          refine zg_cvi rfl rfl rfl (Nat.le_of_ble_eq_true rfl) (zha (by decide)) zc_RefM rfl rfl zq_132f ?_
                          rw [zup_zup]
                          refine xg_step rfl rfl (fun k => rfl) ?_
                          exact (h3 ⟨by omega, by omega, by simp only [zCS]; omega, by simp only [zCS]; omega⟩).elim
                    ·
                      refine xg_step rfl rfl (fun k => rfl) ?_
                      refine xg_step rfl rfl (fun k => rfl) ?_
                      refine xg_step rfl rfl (fun k => rfl) ?_
                      refine xg_step rfl rfl (fun k => rfl) ?_
                      refine xg_step rfl rfl (fun k => rfl) ?_
                      refine xg_step rfl rfl (fun k => rfl) ?_
                      refine xg_step rfl rfl (fun k => rfl) ?_
                      refine xg_step rfl rfl (fun k => rfl) ?_
                      refine xg_step rfl rfl (fun k => rfl) ?_
                      refine zg_cvi rfl rfl rfl (Nat.le_of_ble_eq_true rfl) (zha (by decide)) zc_RefM rfl rfl zq_132t ?_
                      rw [zup_zup]
                      refine xg_step rfl rfl (fun k => rfl) ?_
                      refine xg_step rfl rfl (fun k => rfl) ?_
                      refine zg_iret rfl rfl zfitI ?_
                      first | rfl | exact (by simp only [zCS] at h3; omega : False).elim
                  ·
                    refine xg_step rfl rfl (fun k => rfl) ?_
                    refine xg_step rfl rfl (fun k => rfl) ?_
                    refine zg_eq rfl rfl (fun x y k => rfl) (by first | assumption | exact hA _ _ | exact hB _ _ | exact hC _ _ | exact zrg_max (by assumption) (hA _ _) | (constructor <;> omega)) (by first | assumption | exact hA _ _ | exact hB _ _ | exact hC _ _ | exact zrg_max (by assumption) (hA _ _) | (constructor <;> omega)) (fun hc => ?_) (fun hc => ?_)
                    ·
                      refine xg_step rfl rfl (fun k => rfl) ?_
                      refine zg_lt0 rfl rfl (fun x k => rfl) (by first | assumption | exact hA _ _ | exact hB _ _ | exact hC _ _ | exact zrg_max (by assumption) (hA _ _) | (constructor <;> omega)) (fun hc => ?_) (fun hc => ?_)
                      ·
                        refine xg_step rfl rfl (fun k => rfl) ?_
                        refine xg_step rfl rfl (fun k => rfl) ?_
                        refine xg_step rfl rfl (fun k => rfl) ?_
                        refine xg_step rfl rfl (fun k => rfl) ?_
                        refine xg_step rfl rfl (fun k => rfl) ?_
                        refine xg_step rfl rfl (fun k => rfl) ?_
                        refine xg_step rfl rfl (fun k => rfl) ?_
                        refine xg_step rfl rfl (fun k => rfl) ?_
                        refine zg_cvi rfl rfl rfl (Nat.le_of_ble_eq_true rfl) (zha (by decide)) zc_RefM rfl rfl zq_132t ?_
                        rw [zup_zup]
                        refine xg_step rfl rfl (fun k => rfl) ?_
                        refine xg_step rfl rfl (fun k => rfl) ?_
                        refine zg_iret rfl rfl zfitI ?_
                        first | rfl | exact (by simp only [zCS] at h3; omega : False).elim
                      ·
                        refine xg_step rfl rfl (fun k => rfl) ?_
                        refine zg_si rfl (by decide) ?_
                        refine zg_gt rfl rfl (fun x y k => rfl) (by first | assumption | exact hA _ _ | exact hB _ _ | exact hC _ _ | exact zrg_max (by assumption) (hA _ _) | (constructor <;> omega)) (by first | assumption | exact hA _ _ | exact hB _ _ | exact hC _ _ | exact zrg_max (by assumption) (hA _ _) | (constructor <;> omega)) (fun hc => ?_) (fun hc => ?_)
                        ·
                          refine xg_step rfl rfl (fun k => rfl) ?_
                          refine xg_step rfl rfl (fun k => rfl) ?_
                          refine xg_step rfl rfl (fun k => rfl) ?_
                          refine xg_step rfl rfl (fun k => rfl) ?_
                          refine xg_step rfl rfl (fun k => rfl) ?_
                          refine xg_step rfl rfl (fun k => rfl) ?_
                          refine xg_step rfl rfl (fun k => rfl) ?_
                          refine xg_step rfl rfl (fun k => rfl) ?_
                          refine zg_cvi rfl rfl rfl (Nat.le_of_ble_eq_true rfl) (zha (by decide)) zc_RefM rfl rfl zq_132t ?_
                          rw [zup_zup]
                          refine xg_step rfl rfl (fun k => rfl) ?_
                          refine xg_step rfl rfl (fun k => rfl) ?_
                          refine zg_iret rfl rfl zfitI ?_
                          first | rfl | exact (by simp only [zCS] at h3; omega : False).elim
                        ·
                          refine xg_step rfl rfl (fun k => rfl) ?_
                          refine xg_step rfl rfl (fun k => rfl) ?_
                          refine zg_eq rfl rfl (fun x y k => rfl) (by first | assumption | exact hA _ _ | exact hB _ _ | exact hC _ _ | exact zrg_max (by assumption) (hA _ _) | (constructor <;> omega)) (by first | assumption | exact hA _ _ | exact hB _ _ | exact hC _ _ | exact zrg_max (by assumption) (hA _ _) | (constructor <;> omega)) (fun hc => ?_) (fun hc => ?_)
                          ·
                            refine xg_step rfl rfl (fun k => rfl) ?_
                            refine zg_eq0 rfl rfl (fun x k => rfl) (by first | assumption | exact hA _ _ | exact hB _ _ | exact hC _ _ | exact zrg_max (by assumption) (hA _ _) | (constructor <;> omega)) (fun hc => ?_) (fun hc => ?_)
                            ·
                              refine xg_step rfl rfl (fun k => rfl) ?_
                              refine xg_step rfl rfl (fun k => rfl) ?_
                              refine xg_step rfl rfl (fun k => rfl) ?_
                              refine xg_step rfl rfl (fun k => rfl) ?_
                              refine xg_step rfl rfl (fun k => rfl) ?_
                              refine xg_step rfl rfl (fun k => rfl) ?_
                              refine xg_step rfl rfl (fun k => rfl) ?_
                              refine xg_step rfl rfl (fun k => rfl) ?_
                              refine zg_cvi rfl rfl rfl (Nat.le_of_ble_eq_true rfl) (zha (by decide)) zc_RefM rfl rfl zq_132f ?_
                              rw [zup_zup]
                              refine xg_step rfl rfl (fun k => rfl) ?_
                              exact (h3 ⟨by omega, by omega, by simp only [zCS]; omega, by simp only [zCS]; omega⟩).elim
                            ·
                              refine xg_step rfl rfl (fun k => rfl) ?_
                              refine xg_step rfl rfl (fun k => rfl) ?_
                              refine xg_step rfl rfl (fun k => rfl) ?_
                              refine xg_step rfl rfl (fun k => rfl) ?_
                              refine xg_step rfl rfl (fun k => rfl) ?_
                              refine xg_step rfl rfl (fun k => rfl) ?_
                              refine xg_step rfl rfl (fun k => rfl) ?_
                              refine xg_step rfl rfl (fun k => rfl) ?_
                              refine zg_cvi rfl rfl rfl (Nat.le_of_ble_eq_true rfl) (zha (by decide)) zc_RefM rfl rfl zq_132t ?_
                              rw [zup_zup]
                              refine xg_step rfl rfl (fun k => rfl) ?_
                              refine xg_step rfl rfl (fun k => rfl) ?_
                              refine zg_iret rfl rfl zfitI ?_
                              first | rfl | exact (by simp only [zCS] at h3; omega : False).elim
                          ·
                            refine xg_step rfl rfl (fun k => rfl) ?_
                            refine xg_step rfl rfl (fun k => rfl) ?_
                            refine xg_step rfl rfl (fun k => rfl) ?_
                            refine xg_step rfl rfl (fun k => rfl) ?_
                            refine xg_step rfl rfl (fun k => rfl) ?_
                            refine xg_step rfl rfl (fun k => rfl) ?_
                            refine xg_step rfl rfl (fun k => rfl) ?_
                            refine xg_step rfl rfl (fun k => rfl) ?_
                            refine zg_cvi rfl rfl rfl (Nat.le_of_ble_eq_true rfl) (zha (by decide)) zc_RefM rfl rfl zq_132f ?_
                            rw [zup_zup]
                            refine xg_step rfl rfl (fun k => rfl) ?_
                            exact (h3 ⟨by omega, by omega, by simp only [zCS]; omega, by simp only [zCS]; omega⟩).elim
                    ·
                      refine xg_step rfl rfl (fun k => rfl) ?_
                      refine xg_step rfl rfl (fun k => rfl) ?_
                      refine zg_eq rfl rfl (fun x y k => rfl) (by first | assumption | exact hA _ _ | exact hB _ _ | exact hC _ _ | exact zrg_max (by assumption) (hA _ _) | (constructor <;> omega)) (by first | assumption | exact hA _ _ | exact hB _ _ | exact hC _ _ | exact zrg_max (by assumption) (hA _ _) | (constructor <;> omega)) (fun hc => ?_) (fun hc => ?_)
                      ·
                        refine xg_step rfl rfl (fun k => rfl) ?_
                        refine zg_eq0 rfl rfl (fun x k => rfl) (by first | assumption | exact hA _ _ | exact hB _ _ | exact hC _ _ | exact zrg_max (by assumption) (hA _ _) | (constructor <;> omega)) (fun hc => ?_) (fun hc => ?_)
                        ·
                          refine xg_step rfl rfl (fun k => rfl) ?_
                          refine xg_step rfl rfl (fun k => rfl) ?_
                          refine xg_step rfl rfl (fun k => rfl) ?_
                          refine xg_step rfl rfl (fun k => rfl) ?_
                          refine xg_step rfl rfl (fun k => rfl) ?_
                          refine xg_step rfl rfl (fun k => rfl) ?_
                          refine xg_step rfl rfl (fun k => rfl) ?_
                          refine xg_step rfl rfl (fun k => rfl) ?_
                          refine zg_cvi rfl rfl rfl (Nat.le_of_ble_eq_true rfl) (zha (by decide)) zc_RefM rfl rfl zq_132f ?_
                          rw [zup_zup]
                          refine xg_step rfl rfl (fun k => rfl) ?_
                          exact (h3 ⟨by omega, by omega, by simp only [zCS]; omega, by simp only [zCS]; omega⟩).elim
                        ·
                          refine xg_step rfl rfl (fun k => rfl) ?_
                          refine xg_step rfl rfl (fun k => rfl) ?_
                          refine xg_step rfl rfl (fun k => rfl) ?_
                          refine xg_step rfl rfl (fun k => rfl) ?_
                          refine xg_step rfl rfl (fun k => rfl) ?_
                          refine xg_step rfl rfl (fun k => rfl) ?_
                          refine xg_step rfl rfl (fun k => rfl) ?_
                          refine xg_step rfl rfl (fun k => rfl) ?_
                          refine zg_cvi rfl rfl rfl (Nat.le_of_ble_eq_true rfl) (zha (by decide)) zc_RefM rfl rfl zq_132t ?_
                          rw [zup_zup]
                          refine xg_step rfl rfl (fun k => rfl) ?_
                          refine xg_step rfl rfl (fun k => rfl) ?_
                          refine zg_iret rfl rfl zfitI ?_
                          first | rfl | exact (by simp only [zCS] at h3; omega : False).elim
                      ·
                        refine xg_step rfl rfl (fun k => rfl) ?_
                        refine xg_step rfl rfl (fun k => rfl) ?_
                        refine xg_step rfl rfl (fun k => rfl) ?_
                        refine xg_step rfl rfl (fun k => rfl) ?_
                        refine xg_step rfl rfl (fun k => rfl) ?_
                        refine xg_step rfl rfl (fun k => rfl) ?_
                        refine xg_step rfl rfl (fun k => rfl) ?_
                        refine xg_step rfl rfl (fun k => rfl) ?_
                        refine zg_cvi rfl rfl rfl (Nat.le_of_ble_eq_true rfl) (zha (by decide)) zc_RefM rfl rfl zq_132f ?_
                        rw [zup_zup]
                        refine xg_step rfl rfl (fun k => rfl) ?_
                        exact (h3 ⟨by omega, by omega, by simp only [zCS]; omega, by simp only [zCS]; omega⟩).elim
                ·
                  refine xg_step rfl rfl (fun k => rfl) ?_
                  refine xg_step rfl rfl (fun k => rfl) ?_
                  refine xg_step rfl rfl (fun k => rfl) ?_
                  refine xg_step rfl rfl (fun k => rfl) ?_
                  refine xg_step rfl rfl (fun k => rfl) ?_
                  refine xg_step rfl rfl (fun k => rfl) ?_
                  refine xg_step rfl rfl (fun k => rfl) ?_
                  refine xg_step rfl rfl (fun k => rfl) ?_
                  refine xg_step rfl rfl (fun k => rfl) ?_
                  refine xg_step rfl rfl (fun k => rfl) ?_
                  refine xg_step rfl rfl (fun k => rfl) ?_
                  refine xg_step rfl rfl (fun k => rfl) ?_
                  refine zg_cvi rfl rfl rfl (Nat.le_of_ble_eq_true rfl) (zha (by decide)) zc_RefM rfl rfl zq_132t ?_
                  rw [zup_zup]
                  refine xg_step rfl rfl (fun k => rfl) ?_
                  refine xg_step rfl rfl (fun k => rfl) ?_
                  refine zg_iret rfl rfl zfitI ?_
                  first | rfl | exact (by simp only [zCS] at h3; omega : False).elim
            ·
              refine xg_step rfl rfl (fun k => rfl) ?_
              refine xg_step rfl rfl (fun k => rfl) ?_
              refine xg_step rfl rfl (fun k => rfl) ?_
              refine xg_step rfl rfl (fun k => rfl) ?_
              refine xg_step rfl rfl (fun k => rfl) ?_
              refine xg_step rfl rfl (fun k => rfl) ?_
              refine xg_step rfl rfl (fun k => rfl) ?_
              refine xg_step rfl rfl (fun k => rfl) ?_
              refine xg_step rfl rfl (fun k => rfl) ?_
              refine xg_step rfl rfl (fun k => rfl) ?_
              refine xg_step rfl rfl (fun k => rfl) ?_
              refine xg_step rfl rfl (fun k => rfl) ?_
              refine zg_cvi rfl rfl rfl (Nat.le_of_ble_eq_true rfl) (zha (by decide)) zc_RefM rfl rfl zq_132t ?_
              rw [zup_zup]
              refine xg_step rfl rfl (fun k => rfl) ?_
              refine xg_step rfl rfl (fun k => rfl) ?_
              refine zg_iret rfl rfl zfitI ?_
              first | rfl | exact (by simp only [zCS] at h3; omega : False).elim
        ·
          refine xg_step rfl rfl (fun k => rfl) ?_
          refine xg_step rfl rfl (fun k => rfl) ?_
          refine xg_step rfl rfl (fun k => rfl) ?_
          refine xg_step rfl rfl (fun k => rfl) ?_
          refine xg_step rfl rfl (fun k => rfl) ?_
          refine xg_step rfl rfl (fun k => rfl) ?_
          refine xg_step rfl rfl (fun k => rfl) ?_
          refine xg_step rfl rfl (fun k => rfl) ?_
          refine xg_step rfl rfl (fun k => rfl) ?_
          refine xg_step rfl rfl (fun k => rfl) ?_
          refine xg_step rfl rfl (fun k => rfl) ?_
          refine xg_step rfl rfl (fun k => rfl) ?_
          refine zg_cvi rfl rfl rfl (Nat.le_of_ble_eq_true rfl) (zha (by decide)) zc_RefM rfl rfl zq_132t ?_
          rw [zup_zup]
          refine xg_step rfl rfl (fun k => rfl) ?_
          refine xg_step rfl rfl (fun k => rfl) ?_
          refine zg_iret rfl rfl zfitI ?_
          first | rfl | exact (by simp only [zCS] at h3; omega : False).elim
  ·
    refine xg_step rfl rfl (fun k => rfl) ?_
    refine xg_step rfl rfl (fun k => rfl) ?_
    refine xg_step rfl rfl (fun k => rfl) ?_
    refine xg_step rfl rfl (fun k => rfl) ?_
    refine zg_cvi rfl rfl rfl (Nat.le_of_ble_eq_true rfl) (zha (by decide)) zc_RefM rfl rfl zq_132t ?_
    refine xg_step rfl rfl (fun k => rfl) ?_
    refine xg_step rfl rfl (fun k => rfl) ?_
    refine zg_iret rfl rfl zfitI ?_
    first | rfl | exact (by simp only [zCS] at h3; omega : False).elim
set_option maxRecDepth 10000 in
theorem zo_140 {d : Nat} {A B C : ZM} (hB : zRg B) (hC : zRg C) {p : Int} (hp : zrg p) {kd w a b : Int} (hkd : zrg kd) (hw : zrg w) (ha : zrg a) (hb : zrg b) (h1 : 0 ≤ p ∧ p < 3) (h2 : ¬ B (56 + 17 * p) 9 = 0) (h3 : (0 ≤ kd ∧ kd < 4) ∧ (0 ≤ w ∧ w < 31) ∧ zCS B kd a ∧ ((kd = 3 ∧ zCS B 3 b) ∨ (¬ kd = 3 ∧ b = 0))) {B2 C2 : ZM} {rv : Int} (hmid : XR (d + 1) 121 [.ref 107, zci p, zci kd, zci w, zci a, zci b] (zhp A (zmg B (zup C 107 0 0))) (some (zci rv), zhp A (zmg B2 C2))) : XR (d + 2) 140 [.ref 107, zci (p), zci (kd), zci (w), zci (a), zci (b)] (zhp A (zmg B C)) (some (zci rv), zhp A (zmg B2 C2)) := by
  refine XR.of (Nat.le_of_ble_eq_true rfl) rfl ?_
  refine xg_step rfl rfl (fun k => rfl) ?_
  refine xg_step rfl rfl (fun k => rfl) ?_
  refine zg_csb rfl rfl (by decide) rfl rfl (Nat.le_of_ble_eq_true rfl) rfl (zq_130 hB hC (by first | assumption | exact hA _ _ | exact hB _ _ | exact hC _ _ | exact zrg_max (by assumption) (hA _ _) | (constructor <;> omega))) (fun hc => ?_) (fun hc => ?_)
  ·
    refine xg_step rfl rfl (fun k => rfl) ?_
    refine xg_step rfl rfl (fun k => rfl) ?_
    refine xg_step rfl rfl (fun k => rfl) ?_
    refine zg_cvi rfl rfl rfl (Nat.le_of_ble_eq_true rfl) (zha (by decide)) zc_RefM rfl rfl zq_132f ?_
    refine xg_step rfl rfl (fun k => rfl) ?_
    refine xg_step rfl rfl (fun k => rfl) ?_
    refine xg_step rfl rfl (fun k => rfl) ?_
    refine xg_get rfl rfl (zha (by decide)) zc_RefM rfl rfl ?_
    refine xg_step rfl rfl (fun k => rfl) ?_
    refine zg_ald (.inr ⟨rfl, rfl⟩) (zha (by decide)) zc_r_lied (by decide) ⟨by omega, by omega⟩ (zvB (zk_lied (by omega)) (by omega)) ?_
    refine zg_eq0 rfl rfl (fun x k => rfl) (by first | assumption | exact hA _ _ | exact hB _ _ | exact hC _ _ | exact zrg_max (by assumption) (hA _ _) | (constructor <;> omega)) (fun hc => ?_) (fun hc => ?_)
    ·
      refine xg_step rfl rfl (fun k => rfl) ?_
      refine xg_step rfl rfl (fun k => rfl) ?_
      refine xg_step rfl rfl (fun k => rfl) ?_
      refine zg_cvi rfl rfl rfl (Nat.le_of_ble_eq_true rfl) (zha (by decide)) zc_RefM rfl rfl zq_132t ?_
      rw [zup_zup]
      refine xg_step rfl rfl (fun k => rfl) ?_
      refine xg_step rfl rfl (fun k => rfl) ?_
      refine zg_iret rfl rfl zfitI ?_
      first | rfl | exact (by simp only [zCS] at h3; omega : False).elim
    ·
      refine xg_step rfl rfl (fun k => rfl) ?_
      refine xg_step rfl rfl (fun k => rfl) ?_
      refine zg_cvi rfl rfl rfl (Nat.le_of_ble_eq_true rfl) (zha (by decide)) zc_RefM rfl rfl zq_132f ?_
      rw [zup_zup]
      refine xg_step rfl rfl (fun k => rfl) ?_
      refine xg_step rfl rfl (fun k => rfl) ?_
      refine zg_lt0 rfl rfl (fun x k => rfl) (by first | assumption | exact hA _ _ | exact hB _ _ | exact hC _ _ | exact zrg_max (by assumption) (hA _ _) | (constructor <;> omega)) (fun hc => ?_) (fun hc => ?_)
      ·
        refine xg_step rfl rfl (fun k => rfl) ?_
        refine xg_step rfl rfl (fun k => rfl) ?_
        refine xg_step rfl rfl (fun k => rfl) ?_
        refine xg_step rfl rfl (fun k => rfl) ?_
        refine xg_step rfl rfl (fun k => rfl) ?_
        refine xg_step rfl rfl (fun k => rfl) ?_
        refine xg_step rfl rfl (fun k => rfl) ?_
        refine xg_step rfl rfl (fun k => rfl) ?_
        refine xg_step rfl rfl (fun k => rfl) ?_
        refine xg_step rfl rfl (fun k => rfl) ?_
        refine xg_step rfl rfl (fun k => rfl) ?_
        refine xg_step rfl rfl (fun k => rfl) ?_
        refine zg_cvi rfl rfl rfl (Nat.le_of_ble_eq_true rfl) (zha (by decide)) zc_RefM rfl rfl zq_132t ?_
        rw [zup_zup]
        refine xg_step rfl rfl (fun k => rfl) ?_
        refine xg_step rfl rfl (fun k => rfl) ?_
        refine zg_iret rfl rfl zfitI ?_
        first | rfl | exact (by simp only [zCS] at h3; omega : False).elim
      ·
        refine xg_step rfl rfl (fun k => rfl) ?_
        refine xg_step rfl rfl (fun k => rfl) ?_
        refine zg_lt rfl rfl (fun x y k => rfl) (by first | assumption | exact hA _ _ | exact hB _ _ | exact hC _ _ | exact zrg_max (by assumption) (hA _ _) | (constructor <;> omega)) (by first | assumption | exact hA _ _ | exact hB _ _ | exact hC _ _ | exact zrg_max (by assumption) (hA _ _) | (constructor <;> omega)) (fun hc => ?_) (fun hc => ?_)
        ·
          refine xg_step rfl rfl (fun k => rfl) ?_
          refine zg_lt0 rfl rfl (fun x k => rfl) (by first | assumption | exact hA _ _ | exact hB _ _ | exact hC _ _ | exact zrg_max (by assumption) (hA _ _) | (constructor <;> omega)) (fun hc => ?_) (fun hc => ?_)
          ·
            refine xg_step rfl rfl (fun k => rfl) ?_
            refine xg_step rfl rfl (fun k => rfl) ?_
            refine xg_step rfl rfl (fun k => rfl) ?_
            refine xg_step rfl rfl (fun k => rfl) ?_
            refine xg_step rfl rfl (fun k => rfl) ?_
            refine xg_step rfl rfl (fun k => rfl) ?_
            refine xg_step rfl rfl (fun k => rfl) ?_
            refine xg_step rfl rfl (fun k => rfl) ?_
            refine xg_step rfl rfl (fun k => rfl) ?_
            refine xg_step rfl rfl (fun k => rfl) ?_
            refine xg_step rfl rfl (fun k => rfl) ?_
            refine xg_step rfl rfl (fun k => rfl) ?_
            refine zg_cvi rfl rfl rfl (Nat.le_of_ble_eq_true rfl) (zha (by decide)) zc_RefM rfl rfl zq_132t ?_
            rw [zup_zup]
            refine xg_step rfl rfl (fun k => rfl) ?_
            refine xg_step rfl rfl (fun k => rfl) ?_
            refine zg_iret rfl rfl zfitI ?_
            first | rfl | exact (by simp only [zCS] at h3; omega : False).elim
          ·
            refine xg_step rfl rfl (fun k => rfl) ?_
            refine zg_bi rfl (by decide) ?_
            refine zg_lt rfl rfl (fun x y k => rfl) (by first | assumption | exact hA _ _ | exact hB _ _ | exact hC _ _ | exact zrg_max (by assumption) (hA _ _) | (constructor <;> omega)) (by first | assumption | exact hA _ _ | exact hB _ _ | exact hC _ _ | exact zrg_max (by assumption) (hA _ _) | (constructor <;> omega)) (fun hc => ?_) (fun hc => ?_)
            ·
              refine xg_step rfl rfl (fun k => rfl) ?_
              refine xg_step rfl rfl (fun k => rfl) ?_
              refine zg_eq rfl rfl (fun x y k => rfl) (by first | assumption | exact hA _ _ | exact hB _ _ | exact hC _ _ | exact zrg_max (by assumption) (hA _ _) | (constructor <;> omega)) (by first | assumption | exact hA _ _ | exact hB _ _ | exact hC _ _ | exact zrg_max (by assumption) (hA _ _) | (constructor <;> omega)) (fun hc => ?_) (fun hc => ?_)
              ·
                refine xg_step rfl rfl (fun k => rfl) ?_
                refine zg_lt0 rfl rfl (fun x k => rfl) (by first | assumption | exact hA _ _ | exact hB _ _ | exact hC _ _ | exact zrg_max (by assumption) (hA _ _) | (constructor <;> omega)) (fun hc => ?_) (fun hc => ?_)
                ·
                  refine xg_step rfl rfl (fun k => rfl) ?_
                  refine xg_step rfl rfl (fun k => rfl) ?_
                  refine xg_step rfl rfl (fun k => rfl) ?_
                  refine xg_step rfl rfl (fun k => rfl) ?_
                  refine xg_step rfl rfl (fun k => rfl) ?_
                  refine xg_step rfl rfl (fun k => rfl) ?_
                  refine xg_step rfl rfl (fun k => rfl) ?_
                  refine xg_step rfl rfl (fun k => rfl) ?_
                  refine xg_step rfl rfl (fun k => rfl) ?_
                  refine xg_step rfl rfl (fun k => rfl) ?_
                  refine xg_step rfl rfl (fun k => rfl) ?_
                  refine xg_step rfl rfl (fun k => rfl) ?_
                  refine zg_cvi rfl rfl rfl (Nat.le_of_ble_eq_true rfl) (zha (by decide)) zc_RefM rfl rfl zq_132t ?_
                  rw [zup_zup]
                  refine xg_step rfl rfl (fun k => rfl) ?_
                  refine xg_step rfl rfl (fun k => rfl) ?_
                  refine zg_iret rfl rfl zfitI ?_
                  first | rfl | exact (by simp only [zCS] at h3; omega : False).elim
                ·
                  refine xg_step rfl rfl (fun k => rfl) ?_
                  refine zg_si rfl (by decide) ?_
                  refine zg_gt rfl rfl (fun x y k => rfl) (by first | assumption | exact hA _ _ | exact hB _ _ | exact hC _ _ | exact zrg_max (by assumption) (hA _ _) | (constructor <;> omega)) (by first | assumption | exact hA _ _ | exact hB _ _ | exact hC _ _ | exact zrg_max (by assumption) (hA _ _) | (constructor <;> omega)) (fun hc => ?_) (fun hc => ?_)
                  ·
                    refine xg_step rfl rfl (fun k => rfl) ?_
                    refine xg_step rfl rfl (fun k => rfl) ?_
                    refine xg_step rfl rfl (fun k => rfl) ?_
                    refine xg_step rfl rfl (fun k => rfl) ?_
                    refine xg_step rfl rfl (fun k => rfl) ?_
                    refine xg_step rfl rfl (fun k => rfl) ?_
                    refine xg_step rfl rfl (fun k => rfl) ?_
                    refine xg_step rfl rfl (fun k => rfl) ?_
                    refine xg_step rfl rfl (fun k => rfl) ?_
                    refine xg_step rfl rfl (fun k => rfl) ?_
                    refine xg_step rfl rfl (fun k => rfl) ?_
                    refine xg_step rfl rfl (fun k => rfl) ?_
                    refine zg_cvi rfl rfl rfl (Nat.le_of_ble_eq_true rfl) (zha (by decide)) zc_RefM rfl rfl zq_132t ?_
                    rw [zup_zup]
                    refine xg_step rfl rfl (fun k => rfl) ?_
                    refine xg_step rfl rfl (fun k => rfl) ?_
                    refine zg_iret rfl rfl zfitI ?_
                    first | rfl | exact (by simp only [zCS] at h3; omega : False).elim
                  ·
                    refine xg_step rfl rfl (fun k => rfl) ?_
                    refine zg_lt0 rfl rfl (fun x k => rfl) (by first | assumption | exact hA _ _ | exact hB _ _ | exact hC _ _ | exact zrg_max (by assumption) (hA _ _) | (constructor <;> omega)) (fun hc => ?_) (fun hc => ?_)
                    ·
                      refine xg_step rfl rfl (fun k => rfl) ?_
                      refine xg_step rfl rfl (fun k => rfl) ?_
                      refine xg_step rfl rfl (fun k => rfl) ?_
                      refine xg_step rfl rfl (fun k => rfl) ?_
                      refine xg_step rfl rfl (fun k => rfl) ?_
                      refine xg_step rfl rfl (fun k => rfl) ?_
                      refine xg_step rfl rfl (fun k => rfl) ?_
                      refine xg_step rfl rfl (fun k => rfl) ?_
                      refine xg_step rfl rfl (fun k => rfl) ?_
                      refine xg_step rfl rfl (fun k => rfl) ?_
                      refine xg_step rfl rfl (fun k => rfl) ?_
                      refine xg_step rfl rfl (fun k => rfl) ?_
                      refine zg_cvi rfl rfl rfl (Nat.le_of_ble_eq_true rfl) (zha (by decide)) zc_RefM rfl rfl zq_132t ?_
                      rw [zup_zup]
                      refine xg_step rfl rfl (fun k => rfl) ?_
                      refine xg_step rfl rfl (fun k => rfl) ?_
                      refine zg_iret rfl rfl zfitI ?_
                      first | rfl | exact (by simp only [zCS] at h3; omega : False).elim
                    ·
                      refine xg_step rfl rfl (fun k => rfl) ?_
                      refine zg_si rfl (by decide) ?_
                      refine zg_gt rfl rfl (fun x y k => rfl) (by first | assumption | exact hA _ _ | exact hB _ _ | exact hC _ _ | exact zrg_max (by assumption) (hA _ _) | (constructor <;> omega)) (by first | assumption | exact hA _ _ | exact hB _ _ | exact hC _ _ | exact zrg_max (by assumption) (hA _ _) | (constructor <;> omega)) (fun hc => ?_) (fun hc => ?_)
                      ·
                        refine xg_step rfl rfl (fun k => rfl) ?_
                        refine xg_step rfl rfl (fun k => rfl) ?_
                        refine xg_step rfl rfl (fun k => rfl) ?_
                        refine xg_step rfl rfl (fun k => rfl) ?_
                        refine xg_step rfl rfl (fun k => rfl) ?_
                        refine xg_step rfl rfl (fun k => rfl) ?_
                        refine xg_step rfl rfl (fun k => rfl) ?_
                        refine xg_step rfl rfl (fun k => rfl) ?_
                        refine xg_step rfl rfl (fun k => rfl) ?_
                        refine xg_step rfl rfl (fun k => rfl) ?_
                        refine xg_step rfl rfl (fun k => rfl) ?_
                        refine xg_step rfl rfl (fun k => rfl) ?_
                        refine zg_cvi rfl rfl rfl (Nat.le_of_ble_eq_true rfl) (zha (by decide)) zc_RefM rfl rfl zq_132t ?_
                        rw [zup_zup]
                        refine xg_step rfl rfl (fun k => rfl) ?_
                        refine xg_step rfl rfl (fun k => rfl) ?_
                        refine zg_iret rfl rfl zfitI ?_
                        first | rfl | exact (by simp only [zCS] at h3; omega : False).elim
                      ·
                        refine xg_step rfl rfl (fun k => rfl) ?_
                        refine xg_step rfl rfl (fun k => rfl) ?_
                        refine xg_step rfl rfl (fun k => rfl) ?_
                        refine xg_step rfl rfl (fun k => rfl) ?_
                        refine xg_step rfl rfl (fun k => rfl) ?_
                        refine xg_step rfl rfl (fun k => rfl) ?_
                        refine xg_step rfl rfl (fun k => rfl) ?_
                        refine zg_eq0 rfl rfl (fun x k => rfl) (by first | assumption | exact hA _ _ | exact hB _ _ | exact hC _ _ | exact zrg_max (by assumption) (hA _ _) | (constructor <;> omega)) (fun hc => ?_) (fun hc => ?_)
                        ·
                          refine xg_step rfl rfl (fun k => rfl) ?_
                          refine xg_step rfl rfl (fun k => rfl) ?_
                          refine zg_cvb rfl rfl rfl (Nat.le_of_ble_eq_true rfl) (zha (by decide)) zc_RefM rfl rfl (zq_131 hB (zRg_up hC (by first | assumption | exact hA _ _ | exact hB _ _ | exact hC _ _ | exact zrg_max (by assumption) (hA _ _) | (constructor <;> omega))) (by first | assumption | exact hA _ _ | exact hB _ _ | exact hC _ _ | exact zrg_max (by assumption) (hA _ _) | (constructor <;> omega))) (fun hc => ?_) (fun hc => ?_)
                          ·
                            refine xg_step rfl rfl (fun k => rfl) ?_
                            refine xg_step rfl rfl (fun k => rfl) ?_
                            refine xg_step rfl rfl (fun k => rfl) ?_
                            refine zg_eq rfl rfl (fun x y k => rfl) (by first | assumption | exact hA _ _ | exact hB _ _ | exact hC _ _ | exact zrg_max (by assumption) (hA _ _) | (constructor <;> omega)) (by first | assumption | exact hA _ _ | exact hB _ _ | exact hC _ _ | exact zrg_max (by assumption) (hA _ _) | (constructor <;> omega)) (fun hc => ?_) (fun hc => ?_)
                            ·
                              refine xg_step rfl rfl (fun k => rfl) ?_
                              refine zg_lt0 rfl rfl (fun x k => rfl) (by first | assumption | exact hA _ _ | exact hB _ _ | exact hC _ _ | exact zrg_max (by assumption) (hA _ _) | (constructor <;> omega)) (fun hc => ?_) (fun hc => ?_)
                              ·
                                refine xg_step rfl rfl (fun k => rfl) ?_
                                refine xg_step rfl rfl (fun k => rfl) ?_
                                refine xg_step rfl rfl (fun k => rfl) ?_
                                refine xg_step rfl rfl (fun k => rfl) ?_
                                refine xg_step rfl rfl (fun k => rfl) ?_
                                refine xg_step rfl rfl (fun k => rfl) ?_
                                refine xg_step rfl rfl (fun k => rfl) ?_
                                refine xg_step rfl rfl (fun k => rfl) ?_
                                refine zg_cvi rfl rfl rfl (Nat.le_of_ble_eq_true rfl) (zha (by decide)) zc_RefM rfl rfl zq_132t ?_
                                rw [zup_zup]
                                refine xg_step rfl rfl (fun k => rfl) ?_
                                refine xg_step rfl rfl (fun k => rfl) ?_
                                refine zg_iret rfl rfl zfitI ?_
                                first | rfl | exact (by simp only [zCS] at h3; omega : False).elim
                              ·
                                refine xg_step rfl rfl (fun k => rfl) ?_
                                refine zg_si rfl (by decide) ?_
                                refine zg_gt rfl rfl (fun x y k => rfl) (by first | assumption | exact hA _ _ | exact hB _ _ | exact hC _ _ | exact zrg_max (by assumption) (hA _ _) | (constructor <;> omega)) (by first | assumption | exact hA _ _ | exact hB _ _ | exact hC _ _ | exact zrg_max (by assumption) (hA _ _) | (constructor <;> omega)) (fun hc => ?_) (fun hc => ?_)
                                ·
                                  refine xg_step rfl rfl (fun k => rfl) ?_
                                  refine xg_step rfl rfl (fun k => rfl) ?_
                                  refine xg_step rfl rfl (fun k => rfl) ?_
                                  refine xg_step rfl rfl (fun k => rfl) ?_
                                  refine xg_step rfl rfl (fun k => rfl) ?_
                                  refine xg_step rfl rfl (fun k => rfl) ?_
                                  refine xg_step rfl rfl (fun k => rfl) ?_
                                  refine xg_step rfl rfl (fun k => rfl) ?_
                                  refine zg_cvi rfl rfl rfl (Nat.le_of_ble_eq_true rfl) (zha (by decide)) zc_RefM rfl rfl zq_132t ?_
                                  rw [zup_zup]
                                  refine xg_step rfl rfl (fun k => rfl) ?_
                                  refine xg_step rfl rfl (fun k => rfl) ?_
                                  refine zg_iret rfl rfl zfitI ?_
                                  first | rfl | exact (by simp only [zCS] at h3; omega : False).elim
                                ·
                                  refine xg_step rfl rfl (fun k => rfl) ?_
                                  refine xg_step rfl rfl (fun k => rfl) ?_
                                  refine zg_eq rfl rfl (fun x y k => rfl) (by first | assumption | exact hA _ _ | exact hB _ _ | exact hC _ _ | exact zrg_max (by assumption) (hA _ _) | (constructor <;> omega)) (by first | assumption | exact hA _ _ | exact hB _ _ | exact hC _ _ | exact zrg_max (by assumption) (hA _ _) | (constructor <;> omega)) (fun hc => ?_) (fun hc => ?_)
                                  ·
                                    refine xg_step rfl rfl (fun k => rfl) ?_
                                    refine zg_eq0 rfl rfl (fun x k => rfl) (by first | assumption | exact hA _ _ | exact hB _ _ | exact hC _ _ | exact zrg_max (by assumption) (hA _ _) | (constructor <;> omega)) (fun hc => ?_) (fun hc => ?_)
                                    ·
                                      refine xg_step rfl rfl (fun k => rfl) ?_
                                      refine xg_step rfl rfl (fun k => rfl) ?_
                                      refine xg_step rfl rfl (fun k => rfl) ?_
                                      refine xg_step rfl rfl (fun k => rfl) ?_
                                      refine xg_step rfl rfl (fun k => rfl) ?_
                                      refine xg_step rfl rfl (fun k => rfl) ?_
                                      refine xg_step rfl rfl (fun k => rfl) ?_
                                      refine xg_step rfl rfl (fun k => rfl) ?_
                                      refine zg_cvi rfl rfl rfl (Nat.le_of_ble_eq_true rfl) (zha (by decide)) zc_RefM rfl rfl zq_132f ?_
                                      rw [zup_zup]
                                      refine xg_step rfl rfl (fun k => rfl) ?_
                                      refine xg_step rfl rfl (fun k => rfl) ?_
                                      refine xg_step rfl rfl (fun k => rfl) ?_
                                      refine xg_step rfl rfl (fun k => rfl) ?_
                                      refine xg_step rfl rfl (fun k => rfl) ?_
                                      refine xg_step rfl rfl (fun k => rfl) ?_
                                      refine xg_step rfl rfl (fun k => rfl) ?_
                                      refine zg_cvi rfl rfl rfl (Nat.le_of_ble_eq_true rfl) (zha (by decide)) zc_RefM rfl rfl hmid ?_
                                      refine zg_iret rfl rfl zfitI ?_
                                      first | rfl | exact (by simp only [zCS] at h3; omega : False).elim
                                    ·
                                      refine xg_step rfl rfl (fun k => rfl) ?_
                                      refine xg_step rfl rfl (fun k => rfl) ?_
                                      refine xg_step rfl rfl (fun k => rfl) ?_
                                      refine xg_step rfl rfl (fun k => rfl) ?_
                                      refine xg_step rfl rfl (fun k => rfl) ?_
                                      refine xg_step rfl rfl (fun k => rfl) ?_
                                      refine xg_step rfl rfl (fun k => rfl) ?_
                                      refine xg_step rfl rfl (fun k => rfl) ?_
                                      refine zg_cvi rfl rfl rfl (Nat.le_of_ble_eq_true rfl) (zha (by decide)) zc_RefM rfl rfl zq_132t ?_
                                      rw [zup_zup]
                                      refine xg_step rfl rfl (fun k => rfl) ?_
                                      refine xg_step rfl rfl (fun k => rfl) ?_
                                      refine zg_iret rfl rfl zfitI ?_
                                      first | rfl | exact (by simp only [zCS] at h3; omega : False).elim
                                  ·
                                    refine xg_step rfl rfl (fun k => rfl) ?_
                                    refine xg_step rfl rfl (fun k => rfl) ?_
                                    refine xg_step rfl rfl (fun k => rfl) ?_
                                    refine xg_step rfl rfl (fun k => rfl) ?_
                                    refine xg_step rfl rfl (fun k => rfl) ?_
                                    refine xg_step rfl rfl (fun k => rfl) ?_
                                    refine xg_step rfl rfl (fun k => rfl) ?_
                                    refine xg_step rfl rfl (fun k => rfl) ?_
                                    refine zg_cvi rfl rfl rfl (Nat.le_of_ble_eq_true rfl) (zha (by decide)) zc_RefM rfl rfl zq_132f ?_
                                    rw [zup_zup]
                                    refine xg_step rfl rfl (fun k => rfl) ?_
                                    refine xg_step rfl rfl (fun k => rfl) ?_
                                    refine xg_step rfl rfl (fun k => rfl) ?_
                                    refine xg_step rfl rfl (fun k => rfl) ?_
                                    refine xg_step rfl rfl (fun k => rfl) ?_
                                    refine xg_step rfl rfl (fun k => rfl) ?_
                                    refine xg_step rfl rfl (fun k => rfl) ?_
                                    refine zg_cvi rfl rfl rfl (Nat.le_of_ble_eq_true rfl) (zha (by decide)) zc_RefM rfl rfl hmid ?_
                                    refine zg_iret rfl rfl zfitI ?_
                                    first | rfl | exact (by simp only [zCS] at h3; omega : False).elim
                            ·
                              refine xg_step rfl rfl (fun k => rfl) ?_
                              refine xg_step rfl rfl (fun k => rfl) ?_
                              refine zg_eq rfl rfl (fun x y k => rfl) (by first | assumption | exact hA _ _ | exact hB _ _ | exact hC _ _ | exact zrg_max (by assumption) (hA _ _) | (constructor <;> omega)) (by first | assumption | exact hA _ _ | exact hB _ _ | exact hC _ _ | exact zrg_max (by assumption) (hA _ _) | (constructor <;> omega)) (fun hc => ?_) (fun hc => ?_)
                              ·
                                refine xg_step rfl rfl (fun k => rfl) ?_
                                refine zg_eq0 rfl rfl (fun x k => rfl) (by first | assumption | exact hA _ _ | exact hB _ _ | exact hC _ _ | exact zrg_max (by assumption) (hA _ _) | (constructor <;> omega)) (fun hc => ?_) (fun hc => ?_)
                                ·
                                  refine xg_step rfl rfl (fun k => rfl) ?_
                                  refine xg_step rfl rfl (fun k => rfl) ?_
                                  refine xg_step rfl rfl (fun k => rfl) ?_
                                  refine xg_step rfl rfl (fun k => rfl) ?_
                                  refine xg_step rfl rfl (fun k => rfl) ?_
                                  refine xg_step rfl rfl (fun k => rfl) ?_
                                  refine xg_step rfl rfl (fun k => rfl) ?_
                                  refine xg_step rfl rfl (fun k => rfl) ?_
                                  refine zg_cvi rfl rfl rfl (Nat.le_of_ble_eq_true rfl) (zha (by decide)) zc_RefM rfl rfl zq_132f ?_
                                  rw [zup_zup]
                                  refine xg_step rfl rfl (fun k => rfl) ?_
                                  refine xg_step rfl rfl (fun k => rfl) ?_
                                  refine xg_step rfl rfl (fun k => rfl) ?_
                                  refine xg_step rfl rfl (fun k => rfl) ?_
                                  refine xg_step rfl rfl (fun k => rfl) ?_
                                  refine xg_step rfl rfl (fun k => rfl) ?_
                                  refine xg_step rfl rfl (fun k => rfl) ?_
                                  refine zg_cvi rfl rfl rfl (Nat.le_of_ble_eq_true rfl) (zha (by decide)) zc_RefM rfl rfl hmid ?_
                                  refine zg_iret rfl rfl zfitI ?_
                                  first | rfl | exact (by simp only [zCS] at h3; omega : False).elim
                                ·
                                  refine xg_step rfl rfl (fun k => rfl) ?_
                                  refine xg_step rfl rfl (fun k => rfl) ?_
                                  refine xg_step rfl rfl (fun k => rfl) ?_
                                  refine xg_step rfl rfl (fun k => rfl) ?_
                                  refine xg_step rfl rfl (fun k => rfl) ?_
                                  refine xg_step rfl rfl (fun k => rfl) ?_
                                  refine xg_step rfl rfl (fun k => rfl) ?_
                                  refine xg_step rfl rfl (fun k => rfl) ?_
                                  refine zg_cvi rfl rfl rfl (Nat.le_of_ble_eq_true rfl) (zha (by decide)) zc_RefM rfl rfl zq_132t ?_
                                  rw [zup_zup]
                                  refine xg_step rfl rfl (fun k => rfl) ?_
                                  refine xg_step rfl rfl (fun k => rfl) ?_
                                  refine zg_iret rfl rfl zfitI ?_
                                  first | rfl | exact (by simp only [zCS] at h3; omega : False).elim
                              ·
                                refine xg_step rfl rfl (fun k => rfl) ?_
                                refine xg_step rfl rfl (fun k => rfl) ?_
                                refine xg_step rfl rfl (fun k => rfl) ?_
                                refine xg_step rfl rfl (fun k => rfl) ?_
                                refine xg_step rfl rfl (fun k => rfl) ?_
                                refine xg_step rfl rfl (fun k => rfl) ?_
                                refine xg_step rfl rfl (fun k => rfl) ?_
                                refine xg_step rfl rfl (fun k => rfl) ?_
                                refine zg_cvi rfl rfl rfl (Nat.le_of_ble_eq_true rfl) (zha (by decide)) zc_RefM rfl rfl zq_132f ?_
                                rw [zup_zup]
                                refine xg_step rfl rfl (fun k => rfl) ?_
                                refine xg_step rfl rfl (fun k => rfl) ?_
                                refine xg_step rfl rfl (fun k => rfl) ?_
                                refine xg_step rfl rfl (fun k => rfl) ?_
                                refine xg_step rfl rfl (fun k => rfl) ?_
                                refine xg_step rfl rfl (fun k => rfl) ?_
                                refine xg_step rfl rfl (fun k => rfl) ?_
                                refine zg_cvi rfl rfl rfl (Nat.le_of_ble_eq_true rfl) (zha (by decide)) zc_RefM rfl rfl hmid ?_
                                refine zg_iret rfl rfl zfitI ?_
                                first | rfl | exact (by simp only [zCS] at h3; omega : False).elim
                          ·
                            refine xg_step rfl rfl (fun k => rfl) ?_
                            refine xg_step rfl rfl (fun k => rfl) ?_
                            refine xg_step rfl rfl (fun k => rfl) ?_
                            refine xg_step rfl rfl (fun k => rfl) ?_
                            refine xg_step rfl rfl (fun k => rfl) ?_
                            refine xg_step rfl rfl (fun k => rfl) ?_
                            refine xg_step rfl rfl (fun k => rfl) ?_
                            refine xg_step rfl rfl (fun k => rfl) ?_
                            refine xg_step rfl rfl (fun k => rfl) ?_
                            refine zg_cvi rfl rfl rfl (Nat.le_of_ble_eq_true rfl) (zha (by decide)) zc_RefM rfl rfl zq_132t ?_
                            rw [zup_zup]
                            refine xg_step rfl rfl (fun k => rfl) ?_
                            refine xg_step rfl rfl (fun k => rfl) ?_
                            refine zg_iret rfl rfl zfitI ?_
                            first | rfl | exact (by simp only [zCS] at h3; omega : False).elim
                        ·
                          refine xg_step rfl rfl (fun k => rfl) ?_
                          refine xg_step rfl rfl (fun k => rfl) ?_
                          refine zg_eq rfl rfl (fun x y k => rfl) (by first | assumption | exact hA _ _ | exact hB _ _ | exact hC _ _ | exact zrg_max (by assumption) (hA _ _) | (constructor <;> omega)) (by first | assumption | exact hA _ _ | exact hB _ _ | exact hC _ _ | exact zrg_max (by assumption) (hA _ _) | (constructor <;> omega)) (fun hc => ?_) (fun hc => ?_)
                          ·
                            refine xg_step rfl rfl (fun k => rfl) ?_
                            refine zg_lt0 rfl rfl (fun x k => rfl) (by first | assumption | exact hA _ _ | exact hB _ _ | exact hC _ _ | exact zrg_max (by assumption) (hA _ _) | (constructor <;> omega)) (fun hc => ?_) (fun hc => ?_)
                            ·
                              refine xg_step rfl rfl (fun k => rfl) ?_
                              refine xg_step rfl rfl (fun k => rfl) ?_
                              refine xg_step rfl rfl (fun k => rfl) ?_
                              refine xg_step rfl rfl (fun k => rfl) ?_
                              refine xg_step rfl rfl (fun k => rfl) ?_
                              refine xg_step rfl rfl (fun k => rfl) ?_
                              refine xg_step rfl rfl (fun k => rfl) ?_
                              refine xg_step rfl rfl (fun k => rfl) ?_
                              refine zg_cvi rfl rfl rfl (Nat.le_of_ble_eq_true rfl) (zha (by decide)) zc_RefM rfl rfl zq_132t ?_
                              rw [zup_zup]
                              refine xg_step rfl rfl (fun k => rfl) ?_
                              refine xg_step rfl rfl (fun k => rfl) ?_
                              refine zg_iret rfl rfl zfitI ?_
                              first | rfl | exact (by simp only [zCS] at h3; omega : False).elim
                            ·
                              refine xg_step rfl rfl (fun k => rfl) ?_
                              refine zg_si rfl (by decide) ?_
                              refine zg_gt rfl rfl (fun x y k => rfl) (by first | assumption | exact hA _ _ | exact hB _ _ | exact hC _ _ | exact zrg_max (by assumption) (hA _ _) | (constructor <;> omega)) (by first | assumption | exact hA _ _ | exact hB _ _ | exact hC _ _ | exact zrg_max (by assumption) (hA _ _) | (constructor <;> omega)) (fun hc => ?_) (fun hc => ?_)
                              ·
                                refine xg_step rfl rfl (fun k => rfl) ?_
                                refine xg_step rfl rfl (fun k => rfl) ?_
                                refine xg_step rfl rfl (fun k => rfl) ?_
                                refine xg_step rfl rfl (fun k => rfl) ?_
                                refine xg_step rfl rfl (fun k => rfl) ?_
                                refine xg_step rfl rfl (fun k => rfl) ?_
                                refine xg_step rfl rfl (fun k => rfl) ?_
                                refine xg_step rfl rfl (fun k => rfl) ?_
                                refine zg_cvi rfl rfl rfl (Nat.le_of_ble_eq_true rfl) (zha (by decide)) zc_RefM rfl rfl zq_132t ?_
                                rw [zup_zup]
                                refine xg_step rfl rfl (fun k => rfl) ?_
                                refine xg_step rfl rfl (fun k => rfl) ?_
                                refine zg_iret rfl rfl zfitI ?_
                                first | rfl | exact (by simp only [zCS] at h3; omega : False).elim
                              ·
                                refine xg_step rfl rfl (fun k => rfl) ?_
                                refine xg_step rfl rfl (fun k => rfl) ?_
                                refine zg_eq rfl rfl (fun x y k => rfl) (by first | assumption | exact hA _ _ | exact hB _ _ | exact hC _ _ | exact zrg_max (by assumption) (hA _ _) | (constructor <;> omega)) (by first | assumption | exact hA _ _ | exact hB _ _ | exact hC _ _ | exact zrg_max (by assumption) (hA _ _) | (constructor <;> omega)) (fun hc => ?_) (fun hc => ?_)
                                ·
                                  refine xg_step rfl rfl (fun k => rfl) ?_
                                  refine zg_eq0 rfl rfl (fun x k => rfl) (by first | assumption | exact hA _ _ | exact hB _ _ | exact hC _ _ | exact zrg_max (by assumption) (hA _ _) | (constructor <;> omega)) (fun hc => ?_) (fun hc => ?_)
                                  ·
                                    refine xg_step rfl rfl (fun k => rfl) ?_
                                    refine xg_step rfl rfl (fun k => rfl) ?_
                                    refine xg_step rfl rfl (fun k => rfl) ?_
                                    refine xg_step rfl rfl (fun k => rfl) ?_
                                    refine xg_step rfl rfl (fun k => rfl) ?_
                                    refine xg_step rfl rfl (fun k => rfl) ?_
                                    refine xg_step rfl rfl (fun k => rfl) ?_
                                    refine xg_step rfl rfl (fun k => rfl) ?_
                                    refine zg_cvi rfl rfl rfl (Nat.le_of_ble_eq_true rfl) (zha (by decide)) zc_RefM rfl rfl zq_132f ?_
                                    rw [zup_zup]
                                    refine xg_step rfl rfl (fun k => rfl) ?_
                                    refine xg_step rfl rfl (fun k => rfl) ?_
                                    refine xg_step rfl rfl (fun k => rfl) ?_
                                    refine xg_step rfl rfl (fun k => rfl) ?_
                                    refine xg_step rfl rfl (fun k => rfl) ?_
                                    refine xg_step rfl rfl (fun k => rfl) ?_
                                    refine xg_step rfl rfl (fun k => rfl) ?_
                                    refine zg_cvi rfl rfl rfl (Nat.le_of_ble_eq_true rfl) (zha (by decide)) zc_RefM rfl rfl hmid ?_
                                    refine zg_iret rfl rfl zfitI ?_
                                    first | rfl | exact (by simp only [zCS] at h3; omega : False).elim
                                  ·
                                    refine xg_step rfl rfl (fun k => rfl) ?_
                                    refine xg_step rfl rfl (fun k => rfl) ?_
                                    refine xg_step rfl rfl (fun k => rfl) ?_
                                    refine xg_step rfl rfl (fun k => rfl) ?_
                                    refine xg_step rfl rfl (fun k => rfl) ?_
                                    refine xg_step rfl rfl (fun k => rfl) ?_
                                    refine xg_step rfl rfl (fun k => rfl) ?_
                                    refine xg_step rfl rfl (fun k => rfl) ?_
                                    refine zg_cvi rfl rfl rfl (Nat.le_of_ble_eq_true rfl) (zha (by decide)) zc_RefM rfl rfl zq_132t ?_
                                    rw [zup_zup]
                                    refine xg_step rfl rfl (fun k => rfl) ?_
                                    refine xg_step rfl rfl (fun k => rfl) ?_
                                    refine zg_iret rfl rfl zfitI ?_
                                    first | rfl | exact (by simp only [zCS] at h3; omega : False).elim
                                ·
                                  refine xg_step rfl rfl (fun k => rfl) ?_
                                  refine xg_step rfl rfl (fun k => rfl) ?_
                                  refine xg_step rfl rfl (fun k => rfl) ?_
                                  refine xg_step rfl rfl (fun k => rfl) ?_
                                  refine xg_step rfl rfl (fun k => rfl) ?_
                                  refine xg_step rfl rfl (fun k => rfl) ?_
                                  refine xg_step rfl rfl (fun k => rfl) ?_
                                  refine xg_step rfl rfl (fun k => rfl) ?_
                                  refine zg_cvi rfl rfl rfl (Nat.le_of_ble_eq_true rfl) (zha (by decide)) zc_RefM rfl rfl zq_132f ?_
                                  rw [zup_zup]
                                  refine xg_step rfl rfl (fun k => rfl) ?_
                                  refine xg_step rfl rfl (fun k => rfl) ?_
                                  refine xg_step rfl rfl (fun k => rfl) ?_
                                  refine xg_step rfl rfl (fun k => rfl) ?_
                                  refine xg_step rfl rfl (fun k => rfl) ?_
                                  refine xg_step rfl rfl (fun k => rfl) ?_
                                  refine xg_step rfl rfl (fun k => rfl) ?_
                                  refine zg_cvi rfl rfl rfl (Nat.le_of_ble_eq_true rfl) (zha (by decide)) zc_RefM rfl rfl hmid ?_
                                  refine zg_iret rfl rfl zfitI ?_
                                  first | rfl | exact (by simp only [zCS] at h3; omega : False).elim
                          ·
                            refine xg_step rfl rfl (fun k => rfl) ?_
                            refine xg_step rfl rfl (fun k => rfl) ?_
                            refine zg_eq rfl rfl (fun x y k => rfl) (by first | assumption | exact hA _ _ | exact hB _ _ | exact hC _ _ | exact zrg_max (by assumption) (hA _ _) | (constructor <;> omega)) (by first | assumption | exact hA _ _ | exact hB _ _ | exact hC _ _ | exact zrg_max (by assumption) (hA _ _) | (constructor <;> omega)) (fun hc => ?_) (fun hc => ?_)
                            ·
                              refine xg_step rfl rfl (fun k => rfl) ?_
                              refine zg_eq0 rfl rfl (fun x k => rfl) (by first | assumption | exact hA _ _ | exact hB _ _ | exact hC _ _ | exact zrg_max (by assumption) (hA _ _) | (constructor <;> omega)) (fun hc => ?_) (fun hc => ?_)
                              ·
                                refine xg_step rfl rfl (fun k => rfl) ?_
                                refine xg_step rfl rfl (fun k => rfl) ?_
                                refine xg_step rfl rfl (fun k => rfl) ?_
                                refine xg_step rfl rfl (fun k => rfl) ?_
                                refine xg_step rfl rfl (fun k => rfl) ?_
                                refine xg_step rfl rfl (fun k => rfl) ?_
                                refine xg_step rfl rfl (fun k => rfl) ?_
                                refine xg_step rfl rfl (fun k => rfl) ?_
                                refine zg_cvi rfl rfl rfl (Nat.le_of_ble_eq_true rfl) (zha (by decide)) zc_RefM rfl rfl zq_132f ?_
                                rw [zup_zup]
                                refine xg_step rfl rfl (fun k => rfl) ?_
                                refine xg_step rfl rfl (fun k => rfl) ?_
                                refine xg_step rfl rfl (fun k => rfl) ?_
                                refine xg_step rfl rfl (fun k => rfl) ?_
                                refine xg_step rfl rfl (fun k => rfl) ?_
                                refine xg_step rfl rfl (fun k => rfl) ?_
                                refine xg_step rfl rfl (fun k => rfl) ?_
                                refine zg_cvi rfl rfl rfl (Nat.le_of_ble_eq_true rfl) (zha (by decide)) zc_RefM rfl rfl hmid ?_
                                refine zg_iret rfl rfl zfitI ?_
                                first | rfl | exact (by simp only [zCS] at h3; omega : False).elim
                              ·
                                refine xg_step rfl rfl (fun k => rfl) ?_
                                refine xg_step rfl rfl (fun k => rfl) ?_
                                refine xg_step rfl rfl (fun k => rfl) ?_
                                refine xg_step rfl rfl (fun k => rfl) ?_
                                refine xg_step rfl rfl (fun k => rfl) ?_
                                refine xg_step rfl rfl (fun k => rfl) ?_
                                refine xg_step rfl rfl (fun k => rfl) ?_
                                refine xg_step rfl rfl (fun k => rfl) ?_
                                refine zg_cvi rfl rfl rfl (Nat.le_of_ble_eq_true rfl) (zha (by decide)) zc_RefM rfl rfl zq_132t ?_
                                rw [zup_zup]
                                refine xg_step rfl rfl (fun k => rfl) ?_
                                refine xg_step rfl rfl (fun k => rfl) ?_
                                refine zg_iret rfl rfl zfitI ?_
                                first | rfl | exact (by simp only [zCS] at h3; omega : False).elim
                            ·
                              refine xg_step rfl rfl (fun k => rfl) ?_
                              refine xg_step rfl rfl (fun k => rfl) ?_
                              refine xg_step rfl rfl (fun k => rfl) ?_
                              refine xg_step rfl rfl (fun k => rfl) ?_
                              refine xg_step rfl rfl (fun k => rfl) ?_
                              refine xg_step rfl rfl (fun k => rfl) ?_
                              refine xg_step rfl rfl (fun k => rfl) ?_
                              refine xg_step rfl rfl (fun k => rfl) ?_
                              refine zg_cvi rfl rfl rfl (Nat.le_of_ble_eq_true rfl) (zha (by decide)) zc_RefM rfl rfl zq_132f ?_
                              rw [zup_zup]
                              refine xg_step rfl rfl (fun k => rfl) ?_
                              refine xg_step rfl rfl (fun k => rfl) ?_
                              refine xg_step rfl rfl (fun k => rfl) ?_
                              refine xg_step rfl rfl (fun k => rfl) ?_
                              refine xg_step rfl rfl (fun k => rfl) ?_
                              refine xg_step rfl rfl (fun k => rfl) ?_
                              refine xg_step rfl rfl (fun k => rfl) ?_
                              refine zg_cvi rfl rfl rfl (Nat.le_of_ble_eq_true rfl) (zha (by decide)) zc_RefM rfl rfl hmid ?_
                              refine zg_iret rfl rfl zfitI ?_
                              first | rfl | exact (by simp only [zCS] at h3; omega : False).elim
              ·
                refine xg_step rfl rfl (fun k => rfl) ?_
                refine zg_eq0 rfl rfl (fun x k => rfl) (by first | assumption | exact hA _ _ | exact hB _ _ | exact hC _ _ | exact zrg_max (by assumption) (hA _ _) | (constructor <;> omega)) (fun hc => ?_) (fun hc => ?_)
                ·
                  refine xg_step rfl rfl (fun k => rfl) ?_
                  refine xg_step rfl rfl (fun k => rfl) ?_
                  refine xg_step rfl rfl (fun k => rfl) ?_
                  refine xg_step rfl rfl (fun k => rfl) ?_
                  refine xg_step rfl rfl (fun k => rfl) ?_
                  refine xg_step rfl rfl (fun k => rfl) ?_
                  refine zg_eq0 rfl rfl (fun x k => rfl) (by first | assumption | exact hA _ _ | exact hB _ _ | exact hC _ _ | exact zrg_max (by assumption) (hA _ _) | (constructor <;> omega)) (fun hc => ?_) (fun hc => ?_)
                  ·
                    refine xg_step rfl rfl (fun k => rfl) ?_
                    refine xg_step rfl rfl (fun k => rfl) ?_
                    refine zg_cvb rfl rfl rfl (Nat.le_of_ble_eq_true rfl) (zha (by decide)) zc_RefM rfl rfl (zq_131 hB (zRg_up hC (by first | assumption | exact hA _ _ | exact hB _ _ | exact hC _ _ | exact zrg_max (by assumption) (hA _ _) | (constructor <;> omega))) (by first | assumption | exact hA _ _ | exact hB _ _ | exact hC _ _ | exact zrg_max (by assumption) (hA _ _) | (constructor <;> omega))) (fun hc => ?_) (fun hc => ?_)
                    ·
                      refine xg_step rfl rfl (fun k => rfl) ?_
                      refine xg_step rfl rfl (fun k => rfl) ?_
                      refine xg_step rfl rfl (fun k => rfl) ?_
                      refine zg_eq rfl rfl (fun x y k => rfl) (by first | assumption | exact hA _ _ | exact hB _ _ | exact hC _ _ | exact zrg_max (by assumption) (hA _ _) | (constructor <;> omega)) (by first | assumption | exact hA _ _ | exact hB _ _ | exact hC _ _ | exact zrg_max (by assumption) (hA _ _) | (constructor <;> omega)) (fun hc => ?_) (fun hc => ?_)
                      ·
                        refine xg_step rfl rfl (fun k => rfl) ?_
                        refine zg_lt0 rfl rfl (fun x k => rfl) (by first | assumption | exact hA _ _ | exact hB _ _ | exact hC _ _ | exact zrg_max (by assumption) (hA _ _) | (constructor <;> omega)) (fun hc => ?_) (fun hc => ?_)
                        ·
                          refine xg_step rfl rfl (fun k => rfl) ?_
                          refine xg_step rfl rfl (fun k => rfl) ?_
                          refine xg_step rfl rfl (fun k => rfl) ?_
                          refine xg_step rfl rfl (fun k => rfl) ?_
                          refine xg_step rfl rfl (fun k => rfl) ?_
                          refine xg_step rfl rfl (fun k => rfl) ?_
                          refine xg_step rfl rfl (fun k => rfl) ?_
                          refine xg_step rfl rfl (fun k => rfl) ?_
                          refine zg_cvi rfl rfl rfl (Nat.le_of_ble_eq_true rfl) (zha (by decide)) zc_RefM rfl rfl zq_132t ?_
                          rw [zup_zup]
                          refine xg_step rfl rfl (fun k => rfl) ?_
                          refine xg_step rfl rfl (fun k => rfl) ?_
                          refine zg_iret rfl rfl zfitI ?_
                          first | rfl | exact (by simp only [zCS] at h3; omega : False).elim
                        ·
                          refine xg_step rfl rfl (fun k => rfl) ?_
                          refine zg_si rfl (by decide) ?_
                          refine zg_gt rfl rfl (fun x y k => rfl) (by first | assumption | exact hA _ _ | exact hB _ _ | exact hC _ _ | exact zrg_max (by assumption) (hA _ _) | (constructor <;> omega)) (by first | assumption | exact hA _ _ | exact hB _ _ | exact hC _ _ | exact zrg_max (by assumption) (hA _ _) | (constructor <;> omega)) (fun hc => ?_) (fun hc => ?_)
                          ·
                            refine xg_step rfl rfl (fun k => rfl) ?_
                            refine xg_step rfl rfl (fun k => rfl) ?_
                            refine xg_step rfl rfl (fun k => rfl) ?_
                            refine xg_step rfl rfl (fun k => rfl) ?_
                            refine xg_step rfl rfl (fun k => rfl) ?_
                            refine xg_step rfl rfl (fun k => rfl) ?_
                            refine xg_step rfl rfl (fun k => rfl) ?_
                            refine xg_step rfl rfl (fun k => rfl) ?_
                            refine zg_cvi rfl rfl rfl (Nat.le_of_ble_eq_true rfl) (zha (by decide)) zc_RefM rfl rfl zq_132t ?_
                            rw [zup_zup]
                            refine xg_step rfl rfl (fun k => rfl) ?_
                            refine xg_step rfl rfl (fun k => rfl) ?_
                            refine zg_iret rfl rfl zfitI ?_
                            first | rfl | exact (by simp only [zCS] at h3; omega : False).elim
                          ·
                            refine xg_step rfl rfl (fun k => rfl) ?_
                            refine xg_step rfl rfl (fun k => rfl) ?_
                            refine zg_eq rfl rfl (fun x y k => rfl) (by first | assumption | exact hA _ _ | exact hB _ _ | exact hC _ _ | exact zrg_max (by assumption) (hA _ _) | (constructor <;> omega)) (by first | assumption | exact hA _ _ | exact hB _ _ | exact hC _ _ | exact zrg_max (by assumption) (hA _ _) | (constructor <;> omega)) (fun hc => ?_) (fun hc => ?_)
                            ·
                              refine xg_step rfl rfl (fun k => rfl) ?_
                              refine zg_eq0 rfl rfl (fun x k => rfl) (by first | assumption | exact hA _ _ | exact hB _ _ | exact hC _ _ | exact zrg_max (by assumption) (hA _ _) | (constructor <;> omega)) (fun hc => ?_) (fun hc => ?_)
                              ·
                                refine xg_step rfl rfl (fun k => rfl) ?_
                                refine xg_step rfl rfl (fun k => rfl) ?_
                                refine xg_step rfl rfl (fun k => rfl) ?_
                                refine xg_step rfl rfl (fun k => rfl) ?_
                                refine xg_step rfl rfl (fun k => rfl) ?_
                                refine xg_step rfl rfl (fun k => rfl) ?_
                                refine xg_step rfl rfl (fun k => rfl) ?_
                                refine xg_step rfl rfl (fun k => rfl) ?_
                                refine zg_cvi rfl rfl rfl (Nat.le_of_ble_eq_true rfl) (zha (by decide)) zc_RefM rfl rfl zq_132f ?_
                                rw [zup_zup]
                                refine xg_step rfl rfl (fun k => rfl) ?_
                                refine xg_step rfl rfl (fun k => rfl) ?_
                                refine xg_step rfl rfl (fun k => rfl) ?_
                                refine xg_step rfl rfl (fun k => rfl) ?_
                                refine xg_step rfl rfl (fun k => rfl) ?_
                                refine xg_step rfl rfl (fun k => rfl) ?_
                                refine xg_step rfl rfl (fun k => rfl) ?_
                                refine zg_cvi rfl rfl rfl (Nat.le_of_ble_eq_true rfl) (zha (by decide)) zc_RefM rfl rfl hmid ?_
                                refine zg_iret rfl rfl zfitI ?_
                                first | rfl | exact (by simp only [zCS] at h3; omega : False).elim
                              ·
                                refine xg_step rfl rfl (fun k => rfl) ?_
                                refine xg_step rfl rfl (fun k => rfl) ?_
                                refine xg_step rfl rfl (fun k => rfl) ?_
                                refine xg_step rfl rfl (fun k => rfl) ?_
                                refine xg_step rfl rfl (fun k => rfl) ?_
                                refine xg_step rfl rfl (fun k => rfl) ?_
                                refine xg_step rfl rfl (fun k => rfl) ?_
                                refine xg_step rfl rfl (fun k => rfl) ?_
                                refine zg_cvi rfl rfl rfl (Nat.le_of_ble_eq_true rfl) (zha (by decide)) zc_RefM rfl rfl zq_132t ?_
                                rw [zup_zup]
                                refine xg_step rfl rfl (fun k => rfl) ?_
                                refine xg_step rfl rfl (fun k => rfl) ?_
                                refine zg_iret rfl rfl zfitI ?_
                                first | rfl | exact (by simp only [zCS] at h3; omega : False).elim
                            ·
                              refine xg_step rfl rfl (fun k => rfl) ?_
                              refine xg_step rfl rfl (fun k => rfl) ?_
                              refine xg_step rfl rfl (fun k => rfl) ?_
                              refine xg_step rfl rfl (fun k => rfl) ?_
                              refine xg_step rfl rfl (fun k => rfl) ?_
                              refine xg_step rfl rfl (fun k => rfl) ?_
                              refine xg_step rfl rfl (fun k => rfl) ?_
                              refine xg_step rfl rfl (fun k => rfl) ?_
                              refine zg_cvi rfl rfl rfl (Nat.le_of_ble_eq_true rfl) (zha (by decide)) zc_RefM rfl rfl zq_132f ?_
                              rw [zup_zup]
                              refine xg_step rfl rfl (fun k => rfl) ?_
                              refine xg_step rfl rfl (fun k => rfl) ?_
                              refine xg_step rfl rfl (fun k => rfl) ?_
                              refine xg_step rfl rfl (fun k => rfl) ?_
                              refine xg_step rfl rfl (fun k => rfl) ?_
                              refine xg_step rfl rfl (fun k => rfl) ?_
                              refine xg_step rfl rfl (fun k => rfl) ?_
                              refine zg_cvi rfl rfl rfl (Nat.le_of_ble_eq_true rfl) (zha (by decide)) zc_RefM rfl rfl hmid ?_
                              refine zg_iret rfl rfl zfitI ?_
                              first | rfl | exact (by simp only [zCS] at h3; omega : False).elim
                      ·
                        refine xg_step rfl rfl (fun k => rfl) ?_
                        refine xg_step rfl rfl (fun k => rfl) ?_
                        refine zg_eq rfl rfl (fun x y k => rfl) (by first | assumption | exact hA _ _ | exact hB _ _ | exact hC _ _ | exact zrg_max (by assumption) (hA _ _) | (constructor <;> omega)) (by first | assumption | exact hA _ _ | exact hB _ _ | exact hC _ _ | exact zrg_max (by assumption) (hA _ _) | (constructor <;> omega)) (fun hc => ?_) (fun hc => ?_)
                        ·
                          refine xg_step rfl rfl (fun k => rfl) ?_
                          refine zg_eq0 rfl rfl (fun x k => rfl) (by first | assumption | exact hA _ _ | exact hB _ _ | exact hC _ _ | exact zrg_max (by assumption) (hA _ _) | (constructor <;> omega)) (fun hc => ?_) (fun hc => ?_)
                          ·
                            refine xg_step rfl rfl (fun k => rfl) ?_
                            refine xg_step rfl rfl (fun k => rfl) ?_
                            refine xg_step rfl rfl (fun k => rfl) ?_
                            refine xg_step rfl rfl (fun k => rfl) ?_
                            refine xg_step rfl rfl (fun k => rfl) ?_
                            refine xg_step rfl rfl (fun k => rfl) ?_
                            refine xg_step rfl rfl (fun k => rfl) ?_
                            refine xg_step rfl rfl (fun k => rfl) ?_
                            refine zg_cvi rfl rfl rfl (Nat.le_of_ble_eq_true rfl) (zha (by decide)) zc_RefM rfl rfl zq_132f ?_
                            rw [zup_zup]
                            refine xg_step rfl rfl (fun k => rfl) ?_
                            refine xg_step rfl rfl (fun k => rfl) ?_
                            refine xg_step rfl rfl (fun k => rfl) ?_
                            refine xg_step rfl rfl (fun k => rfl) ?_
                            refine xg_step rfl rfl (fun k => rfl) ?_
                            refine xg_step rfl rfl (fun k => rfl) ?_
                            refine xg_step rfl rfl (fun k => rfl) ?_
                            refine zg_cvi rfl rfl rfl (Nat.le_of_ble_eq_true rfl) (zha (by decide)) zc_RefM rfl rfl hmid ?_
                            refine zg_iret rfl rfl zfitI ?_
                            first | rfl | exact (by simp only [zCS] at h3; omega : False).elim
                          ·
                            refine xg_step rfl rfl (fun k => rfl) ?_
                            refine xg_step rfl rfl (fun k => rfl) ?_
                            refine xg_step rfl rfl (fun k => rfl) ?_
                            refine xg_step rfl rfl (fun k => rfl) ?_
                            refine xg_step rfl rfl (fun k => rfl) ?_
                            refine xg_step rfl rfl (fun k => rfl) ?_
                            refine xg_step rfl rfl (fun k => rfl) ?_
                            refine xg_step rfl rfl (fun k => rfl) ?_
                            refine zg_cvi rfl rfl rfl (Nat.le_of_ble_eq_true rfl) (zha (by decide)) zc_RefM rfl rfl zq_132t ?_
                            rw [zup_zup]
                            refine xg_step rfl rfl (fun k => rfl) ?_
                            refine xg_step rfl rfl (fun k => rfl) ?_
                            refine zg_iret rfl rfl zfitI ?_
                            first | rfl | exact (by simp only [zCS] at h3; omega : False).elim
                        ·
                          refine xg_step rfl rfl (fun k => rfl) ?_
                          refine xg_step rfl rfl (fun k => rfl) ?_
                          refine xg_step rfl rfl (fun k => rfl) ?_
                          refine xg_step rfl rfl (fun k => rfl) ?_
                          refine xg_step rfl rfl (fun k => rfl) ?_
                          refine xg_step rfl rfl (fun k => rfl) ?_
                          refine xg_step rfl rfl (fun k => rfl) ?_
                          refine xg_step rfl rfl (fun k => rfl) ?_
                          refine zg_cvi rfl rfl rfl (Nat.le_of_ble_eq_true rfl) (zha (by decide)) zc_RefM rfl rfl zq_132f ?_
                          rw [zup_zup]
                          refine xg_step rfl rfl (fun k => rfl) ?_
                          refine xg_step rfl rfl (fun k => rfl) ?_
                          refine xg_step rfl rfl (fun k => rfl) ?_
                          refine xg_step rfl rfl (fun k => rfl) ?_
                          refine xg_step rfl rfl (fun k => rfl) ?_
                          refine xg_step rfl rfl (fun k => rfl) ?_
                          refine xg_step rfl rfl (fun k => rfl) ?_
                          refine zg_cvi rfl rfl rfl (Nat.le_of_ble_eq_true rfl) (zha (by decide)) zc_RefM rfl rfl hmid ?_
                          refine zg_iret rfl rfl zfitI ?_
                          first | rfl | exact (by simp only [zCS] at h3; omega : False).elim
                    ·
                      refine xg_step rfl rfl (fun k => rfl) ?_
                      refine xg_step rfl rfl (fun k => rfl) ?_
                      refine xg_step rfl rfl (fun k => rfl) ?_
                      refine xg_step rfl rfl (fun k => rfl) ?_
                      refine xg_step rfl rfl (fun k => rfl) ?_
                      refine xg_step rfl rfl (fun k => rfl) ?_
                      refine xg_step rfl rfl (fun k => rfl) ?_
                      refine xg_step rfl rfl (fun k => rfl) ?_
                      refine xg_step rfl rfl (fun k => rfl) ?_
                      refine zg_cvi rfl rfl rfl (Nat.le_of_ble_eq_true rfl) (zha (by decide)) zc_RefM rfl rfl zq_132t ?_
                      rw [zup_zup]
                      refine xg_step rfl rfl (fun k => rfl) ?_
                      refine xg_step rfl rfl (fun k => rfl) ?_
                      refine zg_iret rfl rfl zfitI ?_
                      first | rfl | exact (by simp only [zCS] at h3; omega : False).elim
                  ·
                    refine xg_step rfl rfl (fun k => rfl) ?_
                    refine xg_step rfl rfl (fun k => rfl) ?_
                    refine zg_eq rfl rfl (fun x y k => rfl) (by first | assumption | exact hA _ _ | exact hB _ _ | exact hC _ _ | exact zrg_max (by assumption) (hA _ _) | (constructor <;> omega)) (by first | assumption | exact hA _ _ | exact hB _ _ | exact hC _ _ | exact zrg_max (by assumption) (hA _ _) | (constructor <;> omega)) (fun hc => ?_) (fun hc => ?_)
                    ·
                      refine xg_step rfl rfl (fun k => rfl) ?_
                      refine zg_lt0 rfl rfl (fun x k => rfl) (by first | assumption | exact hA _ _ | exact hB _ _ | exact hC _ _ | exact zrg_max (by assumption) (hA _ _) | (constructor <;> omega)) (fun hc => ?_) (fun hc => ?_)
                      ·
                        refine xg_step rfl rfl (fun k => rfl) ?_
                        refine xg_step rfl rfl (fun k => rfl) ?_
                        refine xg_step rfl rfl (fun k => rfl) ?_
                        refine xg_step rfl rfl (fun k => rfl) ?_
                        refine xg_step rfl rfl (fun k => rfl) ?_
                        refine xg_step rfl rfl (fun k => rfl) ?_
                        refine xg_step rfl rfl (fun k => rfl) ?_
                        refine xg_step rfl rfl (fun k => rfl) ?_
                        refine zg_cvi rfl rfl rfl (Nat.le_of_ble_eq_true rfl) (zha (by decide)) zc_RefM rfl rfl zq_132t ?_
                        rw [zup_zup]
                        refine xg_step rfl rfl (fun k => rfl) ?_
                        refine xg_step rfl rfl (fun k => rfl) ?_
                        refine zg_iret rfl rfl zfitI ?_
                        first | rfl | exact (by simp only [zCS] at h3; omega : False).elim
                      ·
                        refine xg_step rfl rfl (fun k => rfl) ?_
                        refine zg_si rfl (by decide) ?_
                        refine zg_gt rfl rfl (fun x y k => rfl) (by first | assumption | exact hA _ _ | exact hB _ _ | exact hC _ _ | exact zrg_max (by assumption) (hA _ _) | (constructor <;> omega)) (by first | assumption | exact hA _ _ | exact hB _ _ | exact hC _ _ | exact zrg_max (by assumption) (hA _ _) | (constructor <;> omega)) (fun hc => ?_) (fun hc => ?_)
                        ·
                          refine xg_step rfl rfl (fun k => rfl) ?_
                          refine xg_step rfl rfl (fun k => rfl) ?_
                          refine xg_step rfl rfl (fun k => rfl) ?_
                          refine xg_step rfl rfl (fun k => rfl) ?_
                          refine xg_step rfl rfl (fun k => rfl) ?_
                          refine xg_step rfl rfl (fun k => rfl) ?_
                          refine xg_step rfl rfl (fun k => rfl) ?_
                          refine xg_step rfl rfl (fun k => rfl) ?_
                          refine zg_cvi rfl rfl rfl (Nat.le_of_ble_eq_true rfl) (zha (by decide)) zc_RefM rfl rfl zq_132t ?_
                          rw [zup_zup]
                          refine xg_step rfl rfl (fun k => rfl) ?_
                          refine xg_step rfl rfl (fun k => rfl) ?_
                          refine zg_iret rfl rfl zfitI ?_
                          first | rfl | exact (by simp only [zCS] at h3; omega : False).elim
                        ·
                          refine xg_step rfl rfl (fun k => rfl) ?_
                          refine xg_step rfl rfl (fun k => rfl) ?_
                          refine zg_eq rfl rfl (fun x y k => rfl) (by first | assumption | exact hA _ _ | exact hB _ _ | exact hC _ _ | exact zrg_max (by assumption) (hA _ _) | (constructor <;> omega)) (by first | assumption | exact hA _ _ | exact hB _ _ | exact hC _ _ | exact zrg_max (by assumption) (hA _ _) | (constructor <;> omega)) (fun hc => ?_) (fun hc => ?_)
                          ·
                            refine xg_step rfl rfl (fun k => rfl) ?_
                            refine zg_eq0 rfl rfl (fun x k => rfl) (by first | assumption | exact hA _ _ | exact hB _ _ | exact hC _ _ | exact zrg_max (by assumption) (hA _ _) | (constructor <;> omega)) (fun hc => ?_) (fun hc => ?_)
                            ·
                              refine xg_step rfl rfl (fun k => rfl) ?_
                              refine xg_step rfl rfl (fun k => rfl) ?_
                              refine xg_step rfl rfl (fun k => rfl) ?_
                              refine xg_step rfl rfl (fun k => rfl) ?_
                              refine xg_step rfl rfl (fun k => rfl) ?_
                              refine xg_step rfl rfl (fun k => rfl) ?_
                              refine xg_step rfl rfl (fun k => rfl) ?_
                              refine xg_step rfl rfl (fun k => rfl) ?_
                              refine zg_cvi rfl rfl rfl (Nat.le_of_ble_eq_true rfl) (zha (by decide)) zc_RefM rfl rfl zq_132f ?_
                              rw [zup_zup]
                              refine xg_step rfl rfl (fun k => rfl) ?_
                              refine xg_step rfl rfl (fun k => rfl) ?_
                              refine xg_step rfl rfl (fun k => rfl) ?_
                              refine xg_step rfl rfl (fun k => rfl) ?_
                              refine xg_step rfl rfl (fun k => rfl) ?_
                              refine xg_step rfl rfl (fun k => rfl) ?_
                              refine xg_step rfl rfl (fun k => rfl) ?_
                              refine zg_cvi rfl rfl rfl (Nat.le_of_ble_eq_true rfl) (zha (by decide)) zc_RefM rfl rfl hmid ?_
                              refine zg_iret rfl rfl zfitI ?_
                              first | rfl | exact (by simp only [zCS] at h3; omega : False).elim
                            ·
                              refine xg_step rfl rfl (fun k => rfl) ?_
                              refine xg_step rfl rfl (fun k => rfl) ?_
                              refine xg_step rfl rfl (fun k => rfl) ?_
                              refine xg_step rfl rfl (fun k => rfl) ?_
                              refine xg_step rfl rfl (fun k => rfl) ?_
                              refine xg_step rfl rfl (fun k => rfl) ?_
                              refine xg_step rfl rfl (fun k => rfl) ?_
                              refine xg_step rfl rfl (fun k => rfl) ?_
                              refine zg_cvi rfl rfl rfl (Nat.le_of_ble_eq_true rfl) (zha (by decide)) zc_RefM rfl rfl zq_132t ?_
                              rw [zup_zup]
                              refine xg_step rfl rfl (fun k => rfl) ?_
                              refine xg_step rfl rfl (fun k => rfl) ?_
                              refine zg_iret rfl rfl zfitI ?_
                              first | rfl | exact (by simp only [zCS] at h3; omega : False).elim
                          ·
                            refine xg_step rfl rfl (fun k => rfl) ?_
                            refine xg_step rfl rfl (fun k => rfl) ?_
                            refine xg_step rfl rfl (fun k => rfl) ?_
                            refine xg_step rfl rfl (fun k => rfl) ?_
                            refine xg_step rfl rfl (fun k => rfl) ?_
                            refine xg_step rfl rfl (fun k => rfl) ?_
                            refine xg_step rfl rfl (fun k => rfl) ?_
                            refine xg_step rfl rfl (fun k => rfl) ?_
                            refine zg_cvi rfl rfl rfl (Nat.le_of_ble_eq_true rfl) (zha (by decide)) zc_RefM rfl rfl zq_132f ?_
                            rw [zup_zup]
                            refine xg_step rfl rfl (fun k => rfl) ?_
                            refine xg_step rfl rfl (fun k => rfl) ?_
                            refine xg_step rfl rfl (fun k => rfl) ?_
                            refine xg_step rfl rfl (fun k => rfl) ?_
                            refine xg_step rfl rfl (fun k => rfl) ?_
                            refine xg_step rfl rfl (fun k => rfl) ?_
                            refine xg_step rfl rfl (fun k => rfl) ?_
                            refine zg_cvi rfl rfl rfl (Nat.le_of_ble_eq_true rfl) (zha (by decide)) zc_RefM rfl rfl hmid ?_
                            refine zg_iret rfl rfl zfitI ?_
                            first | rfl | exact (by simp only [zCS] at h3; omega : False).elim
                    ·
                      refine xg_step rfl rfl (fun k => rfl) ?_
                      refine xg_step rfl rfl (fun k => rfl) ?_
                      refine zg_eq rfl rfl (fun x y k => rfl) (by first | assumption | exact hA _ _ | exact hB _ _ | exact hC _ _ | exact zrg_max (by assumption) (hA _ _) | (constructor <;> omega)) (by first | assumption | exact hA _ _ | exact hB _ _ | exact hC _ _ | exact zrg_max (by assumption) (hA _ _) | (constructor <;> omega)) (fun hc => ?_) (fun hc => ?_)
                      ·
                        refine xg_step rfl rfl (fun k => rfl) ?_
                        refine zg_eq0 rfl rfl (fun x k => rfl) (by first | assumption | exact hA _ _ | exact hB _ _ | exact hC _ _ | exact zrg_max (by assumption) (hA _ _) | (constructor <;> omega)) (fun hc => ?_) (fun hc => ?_)
                        ·
                          refine xg_step rfl rfl (fun k => rfl) ?_
                          refine xg_step rfl rfl (fun k => rfl) ?_
                          refine xg_step rfl rfl (fun k => rfl) ?_
                          refine xg_step rfl rfl (fun k => rfl) ?_
                          refine xg_step rfl rfl (fun k => rfl) ?_
                          refine xg_step rfl rfl (fun k => rfl) ?_
                          refine xg_step rfl rfl (fun k => rfl) ?_
                          refine xg_step rfl rfl (fun k => rfl) ?_
                          refine zg_cvi rfl rfl rfl (Nat.le_of_ble_eq_true rfl) (zha (by decide)) zc_RefM rfl rfl zq_132f ?_
                          rw [zup_zup]
                          refine xg_step rfl rfl (fun k => rfl) ?_
                          refine xg_step rfl rfl (fun k => rfl) ?_
                          refine xg_step rfl rfl (fun k => rfl) ?_
                          refine xg_step rfl rfl (fun k => rfl) ?_
                          refine xg_step rfl rfl (fun k => rfl) ?_
                          refine xg_step rfl rfl (fun k => rfl) ?_
                          refine xg_step rfl rfl (fun k => rfl) ?_
                          refine zg_cvi rfl rfl rfl (Nat.le_of_ble_eq_true rfl) (zha (by decide)) zc_RefM rfl rfl hmid ?_
                          refine zg_iret rfl rfl zfitI ?_
                          first | rfl | exact (by simp only [zCS] at h3; omega : False).elim
                        ·
                          refine xg_step rfl rfl (fun k => rfl) ?_
                          refine xg_step rfl rfl (fun k => rfl) ?_
                          refine xg_step rfl rfl (fun k => rfl) ?_
                          refine xg_step rfl rfl (fun k => rfl) ?_
                          refine xg_step rfl rfl (fun k => rfl) ?_
                          refine xg_step rfl rfl (fun k => rfl) ?_
                          refine xg_step rfl rfl (fun k => rfl) ?_
                          refine xg_step rfl rfl (fun k => rfl) ?_
                          refine zg_cvi rfl rfl rfl (Nat.le_of_ble_eq_true rfl) (zha (by decide)) zc_RefM rfl rfl zq_132t ?_
                          rw [zup_zup]
                          refine xg_step rfl rfl (fun k => rfl) ?_
                          refine xg_step rfl rfl (fun k => rfl) ?_
                          refine zg_iret rfl rfl zfitI ?_
                          first | rfl | exact (by simp only [zCS] at h3; omega : False).elim
                      ·
                        refine xg_step rfl rfl (fun k => rfl) ?_
                        refine xg_step rfl rfl (fun k => rfl) ?_
                        refine xg_step rfl rfl (fun k => rfl) ?_
                        refine xg_step rfl rfl (fun k => rfl) ?_
                        refine xg_step rfl rfl (fun k => rfl) ?_
                        refine xg_step rfl rfl (fun k => rfl) ?_
                        refine xg_step rfl rfl (fun k => rfl) ?_
                        refine xg_step rfl rfl (fun k => rfl) ?_
                        refine zg_cvi rfl rfl rfl (Nat.le_of_ble_eq_true rfl) (zha (by decide)) zc_RefM rfl rfl zq_132f ?_
                        rw [zup_zup]
                        refine xg_step rfl rfl (fun k => rfl) ?_
                        refine xg_step rfl rfl (fun k => rfl) ?_
                        refine xg_step rfl rfl (fun k => rfl) ?_
                        refine xg_step rfl rfl (fun k => rfl) ?_
                        refine xg_step rfl rfl (fun k => rfl) ?_
                        refine xg_step rfl rfl (fun k => rfl) ?_
                        refine xg_step rfl rfl (fun k => rfl) ?_
                        refine zg_cvi rfl rfl rfl (Nat.le_of_ble_eq_true rfl) (zha (by decide)) zc_RefM rfl rfl hmid ?_
                        refine zg_iret rfl rfl zfitI ?_
                        first | rfl | exact (by simp only [zCS] at h3; omega : False).elim
                ·
                  refine xg_step rfl rfl (fun k => rfl) ?_
                  refine xg_step rfl rfl (fun k => rfl) ?_
                  refine xg_step rfl rfl (fun k => rfl) ?_
                  refine xg_step rfl rfl (fun k => rfl) ?_
                  refine xg_step rfl rfl (fun k => rfl) ?_
                  refine xg_step rfl rfl (fun k => rfl) ?_
                  refine xg_step rfl rfl (fun k => rfl) ?_
                  refine xg_step rfl rfl (fun k => rfl) ?_
                  refine xg_step rfl rfl (fun k => rfl) ?_
                  refine xg_step rfl rfl (fun k => rfl) ?_
                  refine xg_step rfl rfl (fun k => rfl) ?_
                  refine xg_step rfl rfl (fun k => rfl) ?_
                  refine zg_cvi rfl rfl rfl (Nat.le_of_ble_eq_true rfl) (zha (by decide)) zc_RefM rfl rfl zq_132t ?_
                  rw [zup_zup]
                  refine xg_step rfl rfl (fun k => rfl) ?_
                  refine xg_step rfl rfl (fun k => rfl) ?_
                  refine zg_iret rfl rfl zfitI ?_
                  first | rfl | exact (by simp only [zCS] at h3; omega : False).elim
            ·
              refine xg_step rfl rfl (fun k => rfl) ?_
              refine xg_step rfl rfl (fun k => rfl) ?_
              refine xg_step rfl rfl (fun k => rfl) ?_
              refine xg_step rfl rfl (fun k => rfl) ?_
              refine xg_step rfl rfl (fun k => rfl) ?_
              refine xg_step rfl rfl (fun k => rfl) ?_
              refine xg_step rfl rfl (fun k => rfl) ?_
              refine xg_step rfl rfl (fun k => rfl) ?_
              refine xg_step rfl rfl (fun k => rfl) ?_
              refine xg_step rfl rfl (fun k => rfl) ?_
              refine xg_step rfl rfl (fun k => rfl) ?_
              refine xg_step rfl rfl (fun k => rfl) ?_
              refine zg_cvi rfl rfl rfl (Nat.le_of_ble_eq_true rfl) (zha (by decide)) zc_RefM rfl rfl zq_132t ?_
              rw [zup_zup]
              refine xg_step rfl rfl (fun k => rfl) ?_
              refine xg_step rfl rfl (fun k => rfl) ?_
              refine zg_iret rfl rfl zfitI ?_
              first | rfl | exact (by simp only [zCS] at h3; omega : False).elim
        ·
          refine xg_step rfl rfl (fun k => rfl) ?_
          refine xg_step rfl rfl (fun k => rfl) ?_
          refine xg_step rfl rfl (fun k => rfl) ?_
          refine xg_step rfl rfl (fun k => rfl) ?_
          refine xg_step rfl rfl (fun k => rfl) ?_
          refine xg_step rfl rfl (fun k => rfl) ?_
          refine xg_step rfl rfl (fun k => rfl) ?_
          refine xg_step rfl rfl (fun k => rfl) ?_
          refine xg_step rfl rfl (fun k => rfl) ?_
          refine xg_step rfl rfl (fun k => rfl) ?_
          refine xg_step rfl rfl (fun k => rfl) ?_
          refine xg_step rfl rfl (fun k => rfl) ?_
          refine zg_cvi rfl rfl rfl (Nat.le_of_ble_eq_true rfl) (zha (by decide)) zc_RefM rfl rfl zq_132t ?_
          rw [zup_zup]
          refine xg_step rfl rfl (fun k => rfl) ?_
          refine xg_step rfl rfl (fun k => rfl) ?_
          refine zg_iret rfl rfl zfitI ?_
          first | rfl | exact (by simp only [zCS] at h3; omega : False).elim
  ·
    refine xg_step rfl rfl (fun k => rfl) ?_
    refine xg_step rfl rfl (fun k => rfl) ?_
    refine xg_step rfl rfl (fun k => rfl) ?_
    refine xg_step rfl rfl (fun k => rfl) ?_
    refine zg_cvi rfl rfl rfl (Nat.le_of_ble_eq_true rfl) (zha (by decide)) zc_RefM rfl rfl zq_132t ?_
    refine xg_step rfl rfl (fun k => rfl) ?_
    refine xg_step rfl rfl (fun k => rfl) ?_
    refine zg_iret rfl rfl zfitI ?_
    first | rfl | exact (by simp only [zCS] at h3; omega : False).elim
set_option maxRecDepth 10000 in
theorem zo_146a {d : Nat} {A B C : ZM} (hB : zRg B) (hC : zRg C) {w k : Int} (hw : zrg w) (hk : zrg k) (h1 : ¬ (0 ≤ w ∧ w < 31)) : XR (d + 2) 146 [.ref 107, zci (w), zci (k)] (zhp A (zmg B C)) (some (zci 0), zhp A (zmg B (zup C 107 0 1))) := by
  refine XR.of (Nat.le_of_ble_eq_true rfl) rfl ?_
  refine xg_step rfl rfl (fun k => rfl) ?_
  refine xg_step rfl rfl (fun k => rfl) ?_
  refine zg_lt0 rfl rfl (fun x k => rfl) (by first | assumption | exact hA _ _ | exact hB _ _ | exact hC _ _ | exact zrg_max (by assumption) (hA _ _) | (constructor <;> omega)) (fun hc => ?_) (fun hc => ?_)
  ·
    refine xg_step rfl rfl (fun k => rfl) ?_
    refine xg_step rfl rfl (fun k => rfl) ?_
    refine xg_step rfl rfl (fun k => rfl) ?_
    refine zg_cvi rfl rfl rfl (Nat.le_of_ble_eq_true rfl) (zha (by decide)) zc_RefM rfl rfl zq_132t ?_
    refine xg_step rfl rfl (fun k => rfl) ?_
    refine xg_step rfl rfl (fun k => rfl) ?_
    refine zg_iret rfl rfl zfitI ?_
    first | rfl | exact (by omega : False).elim
  ·
    refine xg_step rfl rfl (fun k => rfl) ?_
    refine zg_bi rfl (by decide) ?_
    refine zg_lt rfl rfl (fun x y k => rfl) (by first | assumption | exact hA _ _ | exact hB _ _ | exact hC _ _ | exact zrg_max (by assumption) (hA _ _) | (constructor <;> omega)) (by first | assumption | exact hA _ _ | exact hB _ _ | exact hC _ _ | exact zrg_max (by assumption) (hA _ _) | (constructor <;> omega)) (fun hc => ?_) (fun hc => ?_)
    ·
      refine xg_step rfl rfl (fun k => rfl) ?_
      refine xg_step rfl rfl (fun k => rfl) ?_
      refine zg_cvi rfl rfl rfl (Nat.le_of_ble_eq_true rfl) (zha (by decide)) zc_RefM rfl rfl zq_132f ?_
      refine xg_step rfl rfl (fun k => rfl) ?_
      exact (by omega : False).elim
    ·
      refine xg_step rfl rfl (fun k => rfl) ?_
      refine xg_step rfl rfl (fun k => rfl) ?_
      refine xg_step rfl rfl (fun k => rfl) ?_
      refine zg_cvi rfl rfl rfl (Nat.le_of_ble_eq_true rfl) (zha (by decide)) zc_RefM rfl rfl zq_132t ?_
      refine xg_step rfl rfl (fun k => rfl) ?_
      refine xg_step rfl rfl (fun k => rfl) ?_
      refine zg_iret rfl rfl zfitI ?_
      first | rfl | exact (by omega : False).elim
set_option maxRecDepth 10000 in
theorem zo_146n {d : Nat} {A B C : ZM} (hB : zRg B) (hC : zRg C) (hL : zLI B C) {w k : Int} (hk : zrg k) (h1 : 1 ≤ w ∧ w < 31) (h2 : B 10 w = 0) : XR (d + 6) 146 [.ref 107, zci (w), zci (k)] (zhp A (zmg B C)) (some (zci (-1)), zhp A (zmg B (zup C 107 0 0))) := by
  have hL0 : zLI B (zup C 107 0 0) := zLI_C hL (zup_row (by omega))
  have hwr : zrg w := ⟨by omega, by omega⟩
  refine XR.of (Nat.le_of_ble_eq_true rfl) rfl ?_
  refine xg_step rfl rfl (fun k => rfl) ?_
  refine xg_step rfl rfl (fun k => rfl) ?_
  refine zg_lt0 rfl rfl (fun x k => rfl) (by first | assumption | exact hA _ _ | exact hB _ _ | exact hC _ _ | exact zrg_max (by assumption) (hA _ _) | (constructor <;> omega)) (fun hc => ?_) (fun hc => ?_)
  ·
    refine xg_step rfl rfl (fun k => rfl) ?_
    refine xg_step rfl rfl (fun k => rfl) ?_
    refine xg_step rfl rfl (fun k => rfl) ?_
    refine zg_cvi rfl rfl rfl (Nat.le_of_ble_eq_true rfl) (zha (by decide)) zc_RefM rfl rfl zq_132t ?_
    refine xg_step rfl rfl (fun k => rfl) ?_
    refine xg_step rfl rfl (fun k => rfl) ?_
    refine zg_iret rfl rfl zfitI ?_
    first | rfl | exact (by omega : False).elim
  ·
    refine xg_step rfl rfl (fun k => rfl) ?_
    refine zg_bi rfl (by decide) ?_
    refine zg_lt rfl rfl (fun x y k => rfl) (by first | assumption | exact hA _ _ | exact hB _ _ | exact hC _ _ | exact zrg_max (by assumption) (hA _ _) | (constructor <;> omega)) (by first | assumption | exact hA _ _ | exact hB _ _ | exact hC _ _ | exact zrg_max (by assumption) (hA _ _) | (constructor <;> omega)) (fun hc => ?_) (fun hc => ?_)
    ·
      refine xg_step rfl rfl (fun k => rfl) ?_
      refine xg_step rfl rfl (fun k => rfl) ?_
      refine zg_cvi rfl rfl rfl (Nat.le_of_ble_eq_true rfl) (zha (by decide)) zc_RefM rfl rfl zq_132f ?_
      refine xg_step rfl rfl (fun k => rfl) ?_
      refine xg_step rfl rfl (fun k => rfl) ?_
      refine zg_gt0 rfl rfl (fun x k => rfl) (by first | assumption | exact hA _ _ | exact hB _ _ | exact hC _ _ | exact zrg_max (by assumption) (hA _ _) | (constructor <;> omega)) (fun hc => ?_) (fun hc => ?_)
      ·
        refine xg_step rfl rfl (fun k => rfl) ?_
        refine xg_step rfl rfl (fun k => rfl) ?_
        refine zg_cvi rfl rfl rfl (Nat.le_of_ble_eq_true rfl) (zha (by decide)) zc_RefM rfl rfl (zq_111 hB (zRg_up hC (by first | assumption | exact hA _ _ | exact hB _ _ | exact hC _ _ | exact zrg_max (by assumption) (hA _ _) | (constructor <;> omega))) hL0 (by omega)) ?_
        refine zg_eq0 rfl rfl (fun x k => rfl) (by first | assumption | exact hA _ _ | exact hB _ _ | exact hC _ _ | exact zrg_max (by assumption) (hA _ _) | (constructor <;> omega)) (fun hc => ?_) (fun hc => ?_)
        ·
          refine xg_step rfl rfl (fun k => rfl) ?_
          refine zg_iret rfl rfl zfitI ?_
          first | rfl | exact (by omega : False).elim
        ·
          exact (by omega : False).elim
      ·
        exact (by omega : False).elim
    ·
      refine xg_step rfl rfl (fun k => rfl) ?_
      refine xg_step rfl rfl (fun k => rfl) ?_
      refine xg_step rfl rfl (fun k => rfl) ?_
      refine zg_cvi rfl rfl rfl (Nat.le_of_ble_eq_true rfl) (zha (by decide)) zc_RefM rfl rfl zq_132t ?_
      refine xg_step rfl rfl (fun k => rfl) ?_
      refine xg_step rfl rfl (fun k => rfl) ?_
      refine zg_iret rfl rfl zfitI ?_
      first | rfl | exact (by omega : False).elim
set_option maxRecDepth 10000 in
theorem zo_146 {d : Nat} {A B C : ZM} (hB : zRg B) (hC : zRg C) (hL : zLI B C) {w k : Int} (hk : zrg k) (h1 : 0 ≤ w ∧ w < 31) (h2 : w = 0 ∨ ¬ B 10 w = 0) (hrw : zRWok B (zup C 107 0 0) w) (hln : 0 ≤ B (-1) (B 11 w)) : XR (d + 14) 146 [.ref 107, zci (w), zci (k)] (zhp A (zmg B C)) (some (zci (if 0 ≤ k ∧ k < B (-1) (B 11 w) then B (B 11 w) k else -1)), zhp A (zmg B (zrwC B w (zup C 107 0 0)))) := by
  have hL0 : zLI B (zup C 107 0 0) := zLI_C hL (zup_row (by omega))
  have hC0 : zRg (zup C 107 0 0) := zRg_up hC ⟨by decide, by decide⟩
  have hwr : zrg w := ⟨by omega, by omega⟩
  obtain ⟨hw1, hw2, hw3, hw4, hw5, hw6⟩ := hrw
  refine XR.of (Nat.le_of_ble_eq_true rfl) rfl ?_
  refine xg_step rfl rfl (fun k => rfl) ?_
  refine xg_step rfl rfl (fun k => rfl) ?_
  refine zg_lt0 rfl rfl (fun x k => rfl) (by first | assumption | exact hA _ _ | exact hB _ _ | exact hC _ _ | exact zrg_max (by assumption) (hA _ _) | (constructor <;> omega)) (fun hc => ?_) (fun hc => ?_)
  ·
    refine xg_step rfl rfl (fun k => rfl) ?_
    refine xg_step rfl rfl (fun k => rfl) ?_
    refine xg_step rfl rfl (fun k => rfl) ?_
    refine zg_cvi rfl rfl rfl (Nat.le_of_ble_eq_true rfl) (zha (by decide)) zc_RefM rfl rfl zq_132t ?_
    refine xg_step rfl rfl (fun k => rfl) ?_
    refine xg_step rfl rfl (fun k => rfl) ?_
    refine zg_iret rfl rfl zfitI ?_
    first | exact (by omega : False).elim | exact zli (by omega) | exact zle (by omega)
  ·
    refine xg_step rfl rfl (fun k => rfl) ?_
    refine zg_bi rfl (by decide) ?_
    refine zg_lt rfl rfl (fun x y k => rfl) (by first | assumption | exact hA _ _ | exact hB _ _ | exact hC _ _ | exact zrg_max (by assumption) (hA _ _) | (constructor <;> omega)) (by first | assumption | exact hA _ _ | exact hB _ _ | exact hC _ _ | exact zrg_max (by assumption) (hA _ _) | (constructor <;> omega)) (fun hc => ?_) (fun hc => ?_)
    ·
      refine xg_step rfl rfl (fun k => rfl) ?_
      refine xg_step rfl rfl (fun k => rfl) ?_
      refine zg_cvi rfl rfl rfl (Nat.le_of_ble_eq_true rfl) (zha (by decide)) zc_RefM rfl rfl zq_132f ?_
      refine xg_step rfl rfl (fun k => rfl) ?_
      refine xg_step rfl rfl (fun k => rfl) ?_
      refine zg_gt0 rfl rfl (fun x k => rfl) (by first | assumption | exact hA _ _ | exact hB _ _ | exact hC _ _ | exact zrg_max (by assumption) (hA _ _) | (constructor <;> omega)) (fun hc => ?_) (fun hc => ?_)
      ·
        refine xg_step rfl rfl (fun k => rfl) ?_
        refine xg_step rfl rfl (fun k => rfl) ?_
        refine zg_cvi rfl rfl rfl (Nat.le_of_ble_eq_true rfl) (zha (by decide)) zc_RefM rfl rfl (zq_111 hB (zRg_up hC (by first | assumption | exact hA _ _ | exact hB _ _ | exact hC _ _ | exact zrg_max (by assumption) (hA _ _) | (constructor <;> omega))) hL0 (by omega)) ?_
        refine zg_eq0 rfl rfl (fun x k => rfl) (by first | assumption | exact hA _ _ | exact hB _ _ | exact hC _ _ | exact zrg_max (by assumption) (hA _ _) | (constructor <;> omega)) (fun hc => ?_) (fun hc => ?_)
        ·
          refine xg_step rfl rfl (fun k => rfl) ?_
          refine zg_iret rfl rfl zfitI ?_
          first | exact (by omega : False).elim | exact zli (by omega) | exact zle (by omega)
        ·
          refine xg_step rfl rfl (fun k => rfl) ?_
          refine xg_step rfl rfl (fun k => rfl) ?_
          refine zg_cvv rfl rfl rfl (Nat.le_of_ble_eq_true rfl) (zha (by decide)) zc_RefM rfl rfl (zq_119 hB hC0 hL0 (by omega) hw1 hw2) ?_
          refine xg_step rfl rfl (fun k => rfl) ?_
          refine zg_lt0 rfl rfl (fun x k => rfl) (by first | assumption | exact hA _ _ | exact hB _ _ | exact hC _ _ | exact zrg_max (by assumption) (hA _ _) | (constructor <;> omega)) (fun hc => ?_) (fun hc => ?_)
          ·
            refine xg_step rfl rfl (fun k => rfl) ?_
            refine zg_iret rfl rfl zfitI ?_
            first | exact (by omega : False).elim | exact zli (by omega) | exact zle (by omega)
          ·
            refine xg_step rfl rfl (fun k => rfl) ?_
            refine xg_step rfl rfl (fun k => rfl) ?_
            refine xg_get rfl rfl (zha (by decide)) zc_RefM rfl rfl ?_
            refine zg_lt rfl rfl (fun x y k => rfl) (by first | assumption | exact hA _ _ | exact hB _ _ | exact hC _ _ | exact zrg_max (by assumption) (hA _ _) | (constructor <;> omega)) (by first | assumption | exact hA _ _ | exact hB _ _ | exact hC _ _ | exact zrg_max (by assumption) (hA _ _) | (constructor <;> omega)) (fun hc => ?_) (fun hc => ?_)
            ·
              refine xg_step rfl rfl (fun k => rfl) ?_
              refine xg_get rfl rfl (zha (by decide)) zc_RefM rfl rfl ?_
              refine xg_step rfl rfl (fun k => rfl) ?_
              refine zg_ald (.inl ⟨rfl, rfl⟩) (zha (by decide)) zc_r_row (by decide) ⟨by omega, by omega⟩ (zvC zk_row (by omega)) ?_
              refine xg_step rfl rfl (fun k => rfl) ?_
              refine zg_iret rfl rfl zfitI ?_
              (rw [hw5 k (by omega)]; exact zli (by omega))
            ·
              refine xg_step rfl rfl (fun k => rfl) ?_
              refine zg_iret rfl rfl zfitI ?_
              first | exact (by omega : False).elim | exact zli (by omega) | exact zle (by omega)
      ·
        refine xg_step rfl rfl (fun k => rfl) ?_
        refine xg_step rfl rfl (fun k => rfl) ?_
        refine zg_cvv rfl rfl rfl (Nat.le_of_ble_eq_true rfl) (zha (by decide)) zc_RefM rfl rfl (zq_119 hB hC0 hL0 (by omega) hw1 hw2) ?_
        refine xg_step rfl rfl (fun k => rfl) ?_
        refine zg_lt0 rfl rfl (fun x k => rfl) (by first | assumption | exact hA _ _ | exact hB _ _ | exact hC _ _ | exact zrg_max (by assumption) (hA _ _) | (constructor <;> omega)) (fun hc => ?_) (fun hc => ?_)
        ·
          refine xg_step rfl rfl (fun k => rfl) ?_
          refine zg_iret rfl rfl zfitI ?_
          first | exact (by omega : False).elim | exact zli (by omega) | exact zle (by omega)
        ·
          refine xg_step rfl rfl (fun k => rfl) ?_
          refine xg_step rfl rfl (fun k => rfl) ?_
          refine xg_get rfl rfl (zha (by decide)) zc_RefM rfl rfl ?_
          refine zg_lt rfl rfl (fun x y k => rfl) (by first | assumption | exact hA _ _ | exact hB _ _ | exact hC _ _ | exact zrg_max (by assumption) (hA _ _) | (constructor <;> omega)) (by first | assumption | exact hA _ _ | exact hB _ _ | exact hC _ _ | exact zrg_max (by assumption) (hA _ _) | (constructor <;> omega)) (fun hc => ?_) (fun hc => ?_)
          ·
            refine xg_step rfl rfl (fun k => rfl) ?_
            refine xg_get rfl rfl (zha (by decide)) zc_RefM rfl rfl ?_
            refine xg_step rfl rfl (fun k => rfl) ?_
            refine zg_ald (.inl ⟨rfl, rfl⟩) (zha (by decide)) zc_r_row (by decide) ⟨by omega, by omega⟩ (zvC zk_row (by omega)) ?_
            refine xg_step rfl rfl (fun k => rfl) ?_
            refine zg_iret rfl rfl zfitI ?_
            (rw [hw5 k (by omega)]; exact zli (by omega))
          ·
            refine xg_step rfl rfl (fun k => rfl) ?_
            refine zg_iret rfl rfl zfitI ?_
            first | exact (by omega : False).elim | exact zli (by omega) | exact zle (by omega)
    ·
      refine xg_step rfl rfl (fun k => rfl) ?_
      refine xg_step rfl rfl (fun k => rfl) ?_
      refine xg_step rfl rfl (fun k => rfl) ?_
      refine zg_cvi rfl rfl rfl (Nat.le_of_ble_eq_true rfl) (zha (by decide)) zc_RefM rfl rfl zq_132t ?_
      refine xg_step rfl rfl (fun k => rfl) ?_
      refine xg_step rfl rfl (fun k => rfl) ?_
      refine zg_iret rfl rfl zfitI ?_
      first | exact (by omega : False).elim | exact zli (by omega) | exact zle (by omega)
