/-! rows put together -/
theorem zLI_C {B C C' : ZM} (hL : zLI B C) (h : C' 119 = C 119) : zLI B C' := by
  unfold zLI at *
  simp only [zVN, zVC, zIC] at *
  rw [h]
  exact hL
abbrev zAc (B : ZM) (i a j b u k : Int) : Prop := B (45 + 2 * (u % 3)) (k * 5 + 0) = 0 ∧ B (45 + 2 * (u % 3)) (k * 5 + 1) = u ∧ B (45 + 2 * (u % 3)) (k * 5 + 4) = 0 ∧ ((i = u % 3 ∧ k < a) ∨ (j = u % 3 ∧ k < b) ∨ zex (zTel B i u k) (min (a - 1) (B (44 + 2 * i) 1)) = true ∨ zex (zTel B j u k) (min (b - 1) (B (44 + 2 * j) 1)) = true)
def zadf (B : ZM) (i a j b u k : Int) (C : ZM) : ZM := if zAc B i a j b u k then zup (zup C 121 (C 107 17) (B (45 + 2 * (u % 3)) (k * 5 + 2))) 107 17 (C 107 17 + 1) else C
set_option maxRecDepth 10000 in
theorem zql_118 {d : Nat} {A B C : ZM} (hB : zRg B) (hC : zRg C) (hL : zLI B C) {w u i a j b l k : Int} {m o10 : Option Value} (hu : 0 ≤ u ∧ u < 31) (hl : l = u % 3) (hi : 0 ≤ i ∧ i < 3) (hj : 0 ≤ j ∧ j < 3) (ha : 1 ≤ a ∧ a < 1000) (hb : 1 ≤ b ∧ b < 1000) (hk : 1 ≤ k ∧ k ≤ B (44 + 2 * (u % 3)) 1 + 1) (hrm : 0 ≤ C 107 17 ∧ C 107 17 + (B (44 + 2 * (u % 3)) 1 + 1 - k) ≤ 400) {r : Option Value × XS} (hr : r = (none, zhp A (zmg B (zfi (zadf B i a j b u) k (B (44 + 2 * (u % 3)) 1) C)))) : XG (d + 10) 118 60 [some (.ref 107), some (zci (w)), some (zci (u)), m, some (zci (i)), some (zci (a)), some (zci (j)), some (zci (b)), some (zci (u % 3)), some (zci (k)), o10] [] (zhp A (zmg B C)) r := by
  have hcu := hL.1 (u % 3) (by omega)
  refine xg_step rfl rfl (fun k => rfl) ?_
  refine xg_step rfl rfl (fun k => rfl) ?_
  refine xg_get rfl rfl (zha (by decide)) zc_RefM rfl rfl ?_
  refine xg_step rfl rfl (fun k => rfl) ?_
  refine zg_ald (.inl ⟨rfl, rfl⟩) (zha (by decide)) zc_r_many (by decide) ⟨by omega, by omega⟩ (zvB (zk_many (by omega)) (by omega)) ?_
  refine zg_gt rfl rfl (fun x y k => rfl) (by first | assumption | exact hA _ _ | exact hB _ _ | exact hC _ _ | exact zrg_max (by assumption) (hA _ _) | (constructor <;> omega)) (by first | assumption | exact hA _ _ | exact hB _ _ | exact hC _ _ | exact zrg_max (by assumption) (hA _ _) | (constructor <;> omega)) (fun hc => ?_) (fun hc => ?_)
  ·
    refine zg_ret rfl rfl ?_
    (rw [hr, zfi_N (by omega)])
  ·
    refine xg_step rfl rfl (fun k => rfl) ?_
    refine xg_get rfl rfl (zha (by decide)) zc_RefM rfl rfl ?_
    refine xg_step rfl rfl (fun k => rfl) ?_
    refine xg_step rfl rfl (fun k => rfl) ?_
    refine zg_csi rfl rfl (by decide) rfl rfl (Nat.le_of_ble_eq_true rfl) rfl (zq_106 hB hC) ?_
    refine zg_ald (.inl ⟨rfl, rfl⟩) (zha (by decide)) zc_r_kinds (by decide) ⟨by omega, by omega⟩ (zvB (zk_kinds (by omega) (by omega)) (by omega)) ?_
    refine zg_eq0 rfl rfl (fun x k => rfl) (by first | assumption | exact hA _ _ | exact hB _ _ | exact hC _ _ | exact zrg_max (by assumption) (hA _ _) | (constructor <;> omega)) (fun hc => ?_) (fun hc => ?_)
    ·
      refine xg_step rfl rfl (fun k => rfl) ?_
      refine xg_get rfl rfl (zha (by decide)) zc_RefM rfl rfl ?_
      refine xg_step rfl rfl (fun k => rfl) ?_
      refine xg_step rfl rfl (fun k => rfl) ?_
      refine zg_csi rfl rfl (by decide) rfl rfl (Nat.le_of_ble_eq_true rfl) rfl (zq_106 hB hC) ?_
      refine zg_ald (.inl ⟨rfl, rfl⟩) (zha (by decide)) zc_r_views (by decide) ⟨by omega, by omega⟩ (zvB (zk_views (by omega) (by omega)) (by omega)) ?_
      refine xg_step rfl rfl (fun k => rfl) ?_
      refine zg_eq rfl rfl (fun x y k => rfl) (by first | assumption | exact hA _ _ | exact hB _ _ | exact hC _ _ | exact zrg_max (by assumption) (hA _ _) | (constructor <;> omega)) (by first | assumption | exact hA _ _ | exact hB _ _ | exact hC _ _ | exact zrg_max (by assumption) (hA _ _) | (constructor <;> omega)) (fun hc => ?_) (fun hc => ?_)
      ·
        refine xg_step rfl rfl (fun k => rfl) ?_
        refine xg_step rfl rfl (fun k => rfl) ?_
        refine xg_step rfl rfl (fun k => rfl) ?_
        refine zg_cvb rfl rfl rfl (Nat.le_of_ble_eq_true rfl) (zha (by decide)) zc_RefM rfl rfl (zq_112 hB hC hL (by omega) (by omega) (by omega)) (fun hc => ?_) (fun hc => ?_)
        ·
          refine xg_step rfl rfl (fun k => rfl) ?_
          refine xg_step rfl rfl (fun k => rfl) ?_
          refine zg_inc rfl rfl rfl rfl ?_
          refine xg_step rfl rfl (fun k => rfl) ?_
          exact zql_118 hB hC hL hu hl hi hj ha hb (k := k + 1) (by omega) (by omega) (hr.trans (by rw [zfi_s (by omega) (show zadf B i a j b u k C = C from if_neg (fun q => by obtain ⟨q1, q2, q3, q4⟩ := q; first | omega | (rcases q4 with q4 | q4 | q4 | q4 <;> first | omega | contradiction)))]))
        ·
          refine xg_step rfl rfl (fun k => rfl) ?_
          refine xg_step rfl rfl (fun k => rfl) ?_
          refine xg_step rfl rfl (fun k => rfl) ?_
          refine zg_eq rfl rfl (fun x y k => rfl) (by first | assumption | exact hA _ _ | exact hB _ _ | exact hC _ _ | exact zrg_max (by assumption) (hA _ _) | (constructor <;> omega)) (by first | assumption | exact hA _ _ | exact hB _ _ | exact hC _ _ | exact zrg_max (by assumption) (hA _ _) | (constructor <;> omega)) (fun hc => ?_) (fun hc => ?_)
          ·
            refine xg_step rfl rfl (fun k => rfl) ?_
            refine xg_step rfl rfl (fun k => rfl) ?_
            refine zg_lt rfl rfl (fun x y k => rfl) (by first | assumption | exact hA _ _ | exact hB _ _ | exact hC _ _ | exact zrg_max (by assumption) (hA _ _) | (constructor <;> omega)) (by first | assumption | exact hA _ _ | exact hB _ _ | exact hC _ _ | exact zrg_max (by assumption) (hA _ _) | (constructor <;> omega)) (fun hc => ?_) (fun hc => ?_)
            ·
              refine xg_step rfl rfl (fun k => rfl) ?_
              refine xg_step rfl rfl (fun k => rfl) ?_
              refine xg_step rfl rfl (fun k => rfl) ?_
              refine xg_step rfl rfl (fun k => rfl) ?_
              refine xg_step rfl rfl (fun k => rfl) ?_
              refine xg_step rfl rfl (fun k => rfl) ?_
              refine xg_get rfl rfl (zha (by decide)) zc_RefM rfl rfl ?_
              refine xg_step rfl rfl (fun k => rfl) ?_
              refine xg_get rfl rfl (zha (by decide)) zc_RefM rfl rfl ?_
              refine xg_step rfl rfl (fun k => rfl) ?_
              refine xg_get rfl rfl (zha (by decide)) zc_RefM rfl rfl ?_
              refine xg_step rfl rfl (fun k => rfl) ?_
              refine xg_step rfl rfl (fun k => rfl) ?_
              refine zg_csi rfl rfl (by decide) rfl rfl (Nat.le_of_ble_eq_true rfl) rfl (zq_106 hB hC) ?_
              refine zg_ald (.inl ⟨rfl, rfl⟩) (zha (by decide)) zc_r_as (by decide) ⟨by omega, by omega⟩ (zvB (zk_as (by omega) (by omega)) (by omega)) ?_
              refine zg_ast (.inl ⟨rfl, rfl⟩) (zha (by decide)) zc_r_row (by decide) ⟨by omega, by omega⟩ (zhwB (zwC zk_row zw_r_row (by omega))) ?_
              refine xg_step rfl rfl (fun k => rfl) ?_
              refine xg_step rfl rfl (fun k => rfl) ?_
              refine zg_geti (x := C 107 17) rfl rfl (zha (by decide)) zc_RefM rfl (zup_ne (by omega)) ?_
              refine xg_step rfl rfl (fun k => rfl) ?_
              refine zg_add rfl ?_
              refine zg_put rfl rfl (zha (by decide)) zc_RefM (Nat.le_of_ble_eq_true rfl) rfl zfitI rfl (zhwB zw_RefM_17) ?_
              refine zg_inc rfl rfl rfl rfl ?_
              refine xg_step rfl rfl (fun k => rfl) ?_
              exact zql_118 hB (zRg_up (zRg_up hC (by first | assumption | exact hA _ _ | exact hB _ _ | exact hC _ _ | exact zrg_max (by assumption) (hA _ _) | (constructor <;> omega))) (by first | assumption | exact hA _ _ | exact hB _ _ | exact hC _ _ | exact zrg_max (by assumption) (hA _ _) | (constructor <;> omega))) (zLI_C hL (by rw [zup_row (by omega), zup_row (by omega)])) hu hl hi hj ha hb (k := k + 1) (by omega) (by rw [zup_eq ⟨rfl, rfl⟩]; omega) (hr.trans (by rw [zfi_s (by omega) (show zadf B i a j b u k C = _ from if_pos ⟨by omega, by omega, by omega, by first | exact .inl (by omega) | exact .inr (.inl (by omega)) | exact .inr (.inr (.inl (by assumption))) | exact .inr (.inr (.inr (by assumption)))⟩)]))
            ·
              refine xg_step rfl rfl (fun k => rfl) ?_
              refine xg_step rfl rfl (fun k => rfl) ?_
              refine zg_eq rfl rfl (fun x y k => rfl) (by first | assumption | exact hA _ _ | exact hB _ _ | exact hC _ _ | exact zrg_max (by assumption) (hA _ _) | (constructor <;> omega)) (by first | assumption | exact hA _ _ | exact hB _ _ | exact hC _ _ | exact zrg_max (by assumption) (hA _ _) | (constructor <;> omega)) (fun hc => ?_) (fun hc => ?_)
              ·
                refine xg_step rfl rfl (fun k => rfl) ?_
                refine xg_step rfl rfl (fun k => rfl) ?_
                refine zg_lt rfl rfl (fun x y k => rfl) (by first | assumption | exact hA _ _ | exact hB _ _ | exact hC _ _ | exact zrg_max (by assumption) (hA _ _) | (constructor <;> omega)) (by first | assumption | exact hA _ _ | exact hB _ _ | exact hC _ _ | exact zrg_max (by assumption) (hA _ _) | (constructor <;> omega)) (fun hc => ?_) (fun hc => ?_)
                ·
                  refine xg_step rfl rfl (fun k => rfl) ?_
                  refine xg_step rfl rfl (fun k => rfl) ?_
                  refine xg_step rfl rfl (fun k => rfl) ?_
                  refine xg_step rfl rfl (fun k => rfl) ?_
                  refine xg_step rfl rfl (fun k => rfl) ?_
                  refine xg_step rfl rfl (fun k => rfl) ?_
                  refine xg_get rfl rfl (zha (by decide)) zc_RefM rfl rfl ?_
                  refine xg_step rfl rfl (fun k => rfl) ?_
                  refine xg_get rfl rfl (zha (by decide)) zc_RefM rfl rfl ?_
                  refine xg_step rfl rfl (fun k => rfl) ?_
                  refine xg_get rfl rfl (zha (by decide)) zc_RefM rfl rfl ?_
                  refine xg_step rfl rfl (fun k => rfl) ?_
                  refine xg_step rfl rfl (fun k => rfl) ?_
                  refine zg_csi rfl rfl (by decide) rfl rfl (Nat.le_of_ble_eq_true rfl) rfl (zq_106 hB hC) ?_
                  refine zg_ald (.inl ⟨rfl, rfl⟩) (zha (by decide)) zc_r_as (by decide) ⟨by omega, by omega⟩ (zvB (zk_as (by omega) (by omega)) (by omega)) ?_
                  refine zg_ast (.inl ⟨rfl, rfl⟩) (zha (by decide)) zc_r_row (by decide) ⟨by omega, by omega⟩ (zhwB (zwC zk_row zw_r_row (by omega))) ?_
                  refine xg_step rfl rfl (fun k => rfl) ?_
                  refine xg_step rfl rfl (fun k => rfl) ?_
                  refine zg_geti (x := C 107 17) rfl rfl (zha (by decide)) zc_RefM rfl (zup_ne (by omega)) ?_
                  refine xg_step rfl rfl (fun k => rfl) ?_
                  refine zg_add rfl ?_
                  refine zg_put rfl rfl (zha (by decide)) zc_RefM (Nat.le_of_ble_eq_true rfl) rfl zfitI rfl (zhwB zw_RefM_17) ?_
                  refine zg_inc rfl rfl rfl rfl ?_
                  refine xg_step rfl rfl (fun k => rfl) ?_
                  exact zql_118 hB (zRg_up (zRg_up hC (by first | assumption | exact hA _ _ | exact hB _ _ | exact hC _ _ | exact zrg_max (by assumption) (hA _ _) | (constructor <;> omega))) (by first | assumption | exact hA _ _ | exact hB _ _ | exact hC _ _ | exact zrg_max (by assumption) (hA _ _) | (constructor <;> omega))) (zLI_C hL (by rw [zup_row (by omega), zup_row (by omega)])) hu hl hi hj ha hb (k := k + 1) (by omega) (by rw [zup_eq ⟨rfl, rfl⟩]; omega) (hr.trans (by rw [zfi_s (by omega) (show zadf B i a j b u k C = _ from if_pos ⟨by omega, by omega, by omega, by first | exact .inl (by omega) | exact .inr (.inl (by omega)) | exact .inr (.inr (.inl (by assumption))) | exact .inr (.inr (.inr (by assumption)))⟩)]))
                ·
                  refine xg_step rfl rfl (fun k => rfl) ?_
                  refine xg_step rfl rfl (fun k => rfl) ?_
                  refine xg_step rfl rfl (fun k => rfl) ?_
                  refine xg_step rfl rfl (fun k => rfl) ?_
                  refine xg_step rfl rfl (fun k => rfl) ?_
                  refine xg_step rfl rfl (fun k => rfl) ?_
                  refine xg_step rfl rfl (fun k => rfl) ?_
                  refine xg_step rfl rfl (fun k => rfl) ?_
                  refine xg_step rfl rfl (fun k => rfl) ?_
                  refine zg_cvb rfl rfl rfl (Nat.le_of_ble_eq_true rfl) (zha (by decide)) zc_RefM rfl rfl (zq_116 hB hC (by omega) (by omega) (by first | assumption | exact hA _ _ | exact hB _ _ | exact hC _ _ | exact zrg_max (by assumption) (hA _ _) | (constructor <;> omega)) (by omega) hL) (fun hc => ?_) (fun hc => ?_)
                  ·
                    refine xg_step rfl rfl (fun k => rfl) ?_
                    refine xg_step rfl rfl (fun k => rfl) ?_
                    refine xg_get rfl rfl (zha (by decide)) zc_RefM rfl rfl ?_
                    refine xg_step rfl rfl (fun k => rfl) ?_
                    refine xg_get rfl rfl (zha (by decide)) zc_RefM rfl rfl ?_
                    refine xg_step rfl rfl (fun k => rfl) ?_
                    refine xg_get rfl rfl (zha (by decide)) zc_RefM rfl rfl ?_
                    refine xg_step rfl rfl (fun k => rfl) ?_
                    refine xg_step rfl rfl (fun k => rfl) ?_
                    refine zg_csi rfl rfl (by decide) rfl rfl (Nat.le_of_ble_eq_true rfl) rfl (zq_106 hB hC) ?_
                    refine zg_ald (.inl ⟨rfl, rfl⟩) (zha (by decide)) zc_r_as (by decide) ⟨by omega, by omega⟩ (zvB (zk_as (by omega) (by omega)) (by omega)) ?_
                    refine zg_ast (.inl ⟨rfl, rfl⟩) (zha (by decide)) zc_r_row (by decide) ⟨by omega, by omega⟩ (zhwB (zwC zk_row zw_r_row (by omega))) ?_
                    refine xg_step rfl rfl (fun k => rfl) ?_
                    refine xg_step rfl rfl (fun k => rfl) ?_
                    refine zg_geti (x := C 107 17) rfl rfl (zha (by decide)) zc_RefM rfl (zup_ne (by omega)) ?_
                    refine xg_step rfl rfl (fun k => rfl) ?_
                    refine zg_add rfl ?_
                    refine zg_put rfl rfl (zha (by decide)) zc_RefM (Nat.le_of_ble_eq_true rfl) rfl zfitI rfl (zhwB zw_RefM_17) ?_
                    refine zg_inc rfl rfl rfl rfl ?_
                    refine xg_step rfl rfl (fun k => rfl) ?_
                    exact zql_118 hB (zRg_up (zRg_up hC (by first | assumption | exact hA _ _ | exact hB _ _ | exact hC _ _ | exact zrg_max (by assumption) (hA _ _) | (constructor <;> omega))) (by first | assumption | exact hA _ _ | exact hB _ _ | exact hC _ _ | exact zrg_max (by assumption) (hA _ _) | (constructor <;> omega))) (zLI_C hL (by rw [zup_row (by omega), zup_row (by omega)])) hu hl hi hj ha hb (k := k + 1) (by omega) (by rw [zup_eq ⟨rfl, rfl⟩]; omega) (hr.trans (by rw [zfi_s (by omega) (show zadf B i a j b u k C = _ from if_pos ⟨by omega, by omega, by omega, by first | exact .inl (by omega) | exact .inr (.inl (by omega)) | exact .inr (.inr (.inl (by assumption))) | exact .inr (.inr (.inr (by assumption)))⟩)]))
                  ·
                    refine xg_step rfl rfl (fun k => rfl) ?_
                    refine xg_step rfl rfl (fun k => rfl) ?_
                    refine xg_step rfl rfl (fun k => rfl) ?_
                    refine xg_step rfl rfl (fun k => rfl) ?_
                    refine xg_step rfl rfl (fun k => rfl) ?_
                    refine xg_step rfl rfl (fun k => rfl) ?_
                    refine zg_cvb rfl rfl rfl (Nat.le_of_ble_eq_true rfl) (zha (by decide)) zc_RefM rfl rfl (zq_116 hB hC (by omega) (by omega) (by first | assumption | exact hA _ _ | exact hB _ _ | exact hC _ _ | exact zrg_max (by assumption) (hA _ _) | (constructor <;> omega)) (by omega) hL) (fun hc => ?_) (fun hc => ?_)
                    ·
                      refine xg_step rfl rfl (fun k => rfl) ?_
                      refine xg_step rfl rfl (fun k => rfl) ?_
                      refine xg_get rfl rfl (zha (by decide)) zc_RefM rfl rfl ?_
                      refine xg_step rfl rfl (fun k => rfl) ?_
                      refine xg_get rfl rfl (zha (by decide)) zc_RefM rfl rfl ?_
                      refine xg_step rfl rfl (fun k => rfl) ?_
                      refine xg_get rfl rfl (zha (by decide)) zc_RefM rfl rfl ?_
                      refine xg_step rfl rfl (fun k => rfl) ?_
                      refine xg_step rfl rfl (fun k => rfl) ?_
                      refine zg_csi rfl rfl (by decide) rfl rfl (Nat.le_of_ble_eq_true rfl) rfl (zq_106 hB hC) ?_
                      refine zg_ald (.inl ⟨rfl, rfl⟩) (zha (by decide)) zc_r_as (by decide) ⟨by omega, by omega⟩ (zvB (zk_as (by omega) (by omega)) (by omega)) ?_
                      refine zg_ast (.inl ⟨rfl, rfl⟩) (zha (by decide)) zc_r_row (by decide) ⟨by omega, by omega⟩ (zhwB (zwC zk_row zw_r_row (by omega))) ?_
                      refine xg_step rfl rfl (fun k => rfl) ?_
                      refine xg_step rfl rfl (fun k => rfl) ?_
                      refine zg_geti (x := C 107 17) rfl rfl (zha (by decide)) zc_RefM rfl (zup_ne (by omega)) ?_
                      refine xg_step rfl rfl (fun k => rfl) ?_
                      refine zg_add rfl ?_
                      refine zg_put rfl rfl (zha (by decide)) zc_RefM (Nat.le_of_ble_eq_true rfl) rfl zfitI rfl (zhwB zw_RefM_17) ?_
                      refine zg_inc rfl rfl rfl rfl ?_
                      refine xg_step rfl rfl (fun k => rfl) ?_
                      exact zql_118 hB (zRg_up (zRg_up hC (by first | assumption | exact hA _ _ | exact hB _ _ | exact hC _ _ | exact zrg_max (by assumption) (hA _ _) | (constructor <;> omega))) (by first | assumption | exact hA _ _ | exact hB _ _ | exact hC _ _ | exact zrg_max (by assumption) (hA _ _) | (constructor <;> omega))) (zLI_C hL (by rw [zup_row (by omega), zup_row (by omega)])) hu hl hi hj ha hb (k := k + 1) (by omega) (by rw [zup_eq ⟨rfl, rfl⟩]; omega) (hr.trans (by rw [zfi_s (by omega) (show zadf B i a j b u k C = _ from if_pos ⟨by omega, by omega, by omega, by first | exact .inl (by omega) | exact .inr (.inl (by omega)) | exact .inr (.inr (.inl (by assumption))) | exact .inr (.inr (.inr (by assumption)))⟩)]))
                    ·
                      refine xg_step rfl rfl (fun k => rfl) ?_
                      refine xg_step rfl rfl (fun k => rfl) ?_
                      refine zg_inc rfl rfl rfl rfl ?_
                      refine xg_step rfl rfl (fun k => rfl) ?_
                      exact zql_118 hB hC hL hu hl hi hj ha hb (k := k + 1) (by omega) (by omega) (hr.trans (by rw [zfi_s (by omega) (show zadf B i a j b u k C = C from if_neg (fun q => by obtain ⟨q1, q2, q3, q4⟩ := q; first | omega | (rcases q4 with q4 | q4 | q4 | q4 <;> first | omega | contradiction)))]))
              ·
                refine xg_step rfl rfl (fun k => rfl) ?_
                refine xg_step rfl rfl (fun k => rfl) ?_
                refine xg_step rfl rfl (fun k => rfl) ?_
                refine xg_step rfl rfl (fun k => rfl) ?_
                refine xg_step rfl rfl (fun k => rfl) ?_
                refine xg_step rfl rfl (fun k => rfl) ?_
                refine xg_step rfl rfl (fun k => rfl) ?_
                refine xg_step rfl rfl (fun k => rfl) ?_
                refine xg_step rfl rfl (fun k => rfl) ?_
                refine zg_cvb rfl rfl rfl (Nat.le_of_ble_eq_true rfl) (zha (by decide)) zc_RefM rfl rfl (zq_116 hB hC (by omega) (by omega) (by first | assumption | exact hA _ _ | exact hB _ _ | exact hC _ _ | exact zrg_max (by assumption) (hA _ _) | (constructor <;> omega)) (by omega) hL) (fun hc => ?_) (fun hc => ?_)
                ·
                  refine xg_step rfl rfl (fun k => rfl) ?_
                  refine xg_step rfl rfl (fun k => rfl) ?_
                  refine xg_get rfl rfl (zha (by decide)) zc_RefM rfl rfl ?_
                  refine xg_step rfl rfl (fun k => rfl) ?_
                  refine xg_get rfl rfl (zha (by decide)) zc_RefM rfl rfl ?_
                  refine xg_step rfl rfl (fun k => rfl) ?_
                  refine xg_get rfl rfl (zha (by decide)) zc_RefM rfl rfl ?_
                  refine xg_step rfl rfl (fun k => rfl) ?_
                  refine xg_step rfl rfl (fun k => rfl) ?_
                  refine zg_csi rfl rfl (by decide) rfl rfl (Nat.le_of_ble_eq_true rfl) rfl (zq_106 hB hC) ?_
                  refine zg_ald (.inl ⟨rfl, rfl⟩) (zha (by decide)) zc_r_as (by decide) ⟨by omega, by omega⟩ (zvB (zk_as (by omega) (by omega)) (by omega)) ?_
                  refine zg_ast (.inl ⟨rfl, rfl⟩) (zha (by decide)) zc_r_row (by decide) ⟨by omega, by omega⟩ (zhwB (zwC zk_row zw_r_row (by omega))) ?_
                  refine xg_step rfl rfl (fun k => rfl) ?_
                  refine xg_step rfl rfl (fun k => rfl) ?_
                  refine zg_geti (x := C 107 17) rfl rfl (zha (by decide)) zc_RefM rfl (zup_ne (by omega)) ?_
                  refine xg_step rfl rfl (fun k => rfl) ?_
                  refine zg_add rfl ?_
                  refine zg_put rfl rfl (zha (by decide)) zc_RefM (Nat.le_of_ble_eq_true rfl) rfl zfitI rfl (zhwB zw_RefM_17) ?_
                  refine zg_inc rfl rfl rfl rfl ?_
                  refine xg_step rfl rfl (fun k => rfl) ?_
                  exact zql_118 hB (zRg_up (zRg_up hC (by first | assumption | exact hA _ _ | exact hB _ _ | exact hC _ _ | exact zrg_max (by assumption) (hA _ _) | (constructor <;> omega))) (by first | assumption | exact hA _ _ | exact hB _ _ | exact hC _ _ | exact zrg_max (by assumption) (hA _ _) | (constructor <;> omega))) (zLI_C hL (by rw [zup_row (by omega), zup_row (by omega)])) hu hl hi hj ha hb (k := k + 1) (by omega) (by rw [zup_eq ⟨rfl, rfl⟩]; omega) (hr.trans (by rw [zfi_s (by omega) (show zadf B i a j b u k C = _ from if_pos ⟨by omega, by omega, by omega, by first | exact .inl (by omega) | exact .inr (.inl (by omega)) | exact .inr (.inr (.inl (by assumption))) | exact .inr (.inr (.inr (by assumption)))⟩)]))
                ·
                  refine xg_step rfl rfl (fun k => rfl) ?_
                  refine xg_step rfl rfl (fun k => rfl) ?_
                  refine xg_step rfl rfl (fun k => rfl) ?_
                  refine xg_step rfl rfl (fun k => rfl) ?_
                  refine xg_step rfl rfl (fun k => rfl) ?_
                  refine xg_step rfl rfl (fun k => rfl) ?_
                  refine zg_cvb rfl rfl rfl (Nat.le_of_ble_eq_true rfl) (zha (by decide)) zc_RefM rfl rfl (zq_116 hB hC (by omega) (by omega) (by first | assumption | exact hA _ _ | exact hB _ _ | exact hC _ _ | exact zrg_max (by assumption) (hA _ _) | (constructor <;> omega)) (by omega) hL) (fun hc => ?_) (fun hc => ?_)
                  ·
                    refine xg_step rfl rfl (fun k => rfl) ?_
                    refine xg_step rfl rfl (fun k => rfl) ?_
                    refine xg_get rfl rfl (zha (by decide)) zc_RefM rfl rfl ?_
                    refine xg_step rfl rfl (fun k => rfl) ?_
                    refine xg_get rfl rfl (zha (by decide)) zc_RefM rfl rfl ?_
                    refine xg_step rfl rfl (fun k => rfl) ?_
                    refine xg_get rfl rfl (zha (by decide)) zc_RefM rfl rfl ?_
                    refine xg_step rfl rfl (fun k => rfl) ?_
                    refine xg_step rfl rfl (fun k => rfl) ?_
                    refine zg_csi rfl rfl (by decide) rfl rfl (Nat.le_of_ble_eq_true rfl) rfl (zq_106 hB hC) ?_
                    refine zg_ald (.inl ⟨rfl, rfl⟩) (zha (by decide)) zc_r_as (by decide) ⟨by omega, by omega⟩ (zvB (zk_as (by omega) (by omega)) (by omega)) ?_
                    refine zg_ast (.inl ⟨rfl, rfl⟩) (zha (by decide)) zc_r_row (by decide) ⟨by omega, by omega⟩ (zhwB (zwC zk_row zw_r_row (by omega))) ?_
                    refine xg_step rfl rfl (fun k => rfl) ?_
                    refine xg_step rfl rfl (fun k => rfl) ?_
                    refine zg_geti (x := C 107 17) rfl rfl (zha (by decide)) zc_RefM rfl (zup_ne (by omega)) ?_
                    refine xg_step rfl rfl (fun k => rfl) ?_
                    refine zg_add rfl ?_
                    refine zg_put rfl rfl (zha (by decide)) zc_RefM (Nat.le_of_ble_eq_true rfl) rfl zfitI rfl (zhwB zw_RefM_17) ?_
                    refine zg_inc rfl rfl rfl rfl ?_
                    refine xg_step rfl rfl (fun k => rfl) ?_
                    exact zql_118 hB (zRg_up (zRg_up hC (by first | assumption | exact hA _ _ | exact hB _ _ | exact hC _ _ | exact zrg_max (by assumption) (hA _ _) | (constructor <;> omega))) (by first | assumption | exact hA _ _ | exact hB _ _ | exact hC _ _ | exact zrg_max (by assumption) (hA _ _) | (constructor <;> omega))) (zLI_C hL (by rw [zup_row (by omega), zup_row (by omega)])) hu hl hi hj ha hb (k := k + 1) (by omega) (by rw [zup_eq ⟨rfl, rfl⟩]; omega) (hr.trans (by rw [zfi_s (by omega) (show zadf B i a j b u k C = _ from if_pos ⟨by omega, by omega, by omega, by first | exact .inl (by omega) | exact .inr (.inl (by omega)) | exact .inr (.inr (.inl (by assumption))) | exact .inr (.inr (.inr (by assumption)))⟩)]))
                  ·
                    refine xg_step rfl rfl (fun k => rfl) ?_
                    refine xg_step rfl rfl (fun k => rfl) ?_
                    refine zg_inc rfl rfl rfl rfl ?_
                    refine xg_step rfl rfl (fun k => rfl) ?_
                    exact zql_118 hB hC hL hu hl hi hj ha hb (k := k + 1) (by omega) (by omega) (hr.trans (by rw [zfi_s (by omega) (show zadf B i a j b u k C = C from if_neg (fun q => by obtain ⟨q1, q2, q3, q4⟩ := q; first | omega | (rcases q4 with q4 | q4 | q4 | q4 <;> first | omega | contradiction)))]))
          ·
            refine xg_step rfl rfl (fun k => rfl) ?_
            refine xg_step rfl rfl (fun k => rfl) ?_
            refine zg_eq rfl rfl (fun x y k => rfl) (by first | assumption | exact hA _ _ | exact hB _ _ | exact hC _ _ | exact zrg_max (by assumption) (hA _ _) | (constructor <;> omega)) (by first | assumption | exact hA _ _ | exact hB _ _ | exact hC _ _ | exact zrg_max (by assumption) (hA _ _) | (constructor <;> omega)) (fun hc => ?_) (fun hc => ?_)
            ·
              refine xg_step rfl rfl (fun k => rfl) ?_
              refine xg_step rfl rfl (fun k => rfl) ?_
              refine zg_lt rfl rfl (fun x y k => rfl) (by first | assumption | exact hA _ _ | exact hB _ _ | exact hC _ _ | exact zrg_max (by assumption) (hA _ _) | (constructor <;> omega)) (by first | assumption | exact hA _ _ | exact hB _ _ | exact hC _ _ | exact zrg_max (by assumption) (hA _ _) | (constructor <;> omega)) (fun hc => ?_) (fun hc => ?_)
              ·
                refine xg_step rfl rfl (fun k => rfl) ?_
                refine xg_step rfl rfl (fun k => rfl) ?_
                refine xg_step rfl rfl (fun k => rfl) ?_
                refine xg_step rfl rfl (fun k => rfl) ?_
                refine xg_step rfl rfl (fun k => rfl) ?_
                refine xg_step rfl rfl (fun k => rfl) ?_
                refine xg_get rfl rfl (zha (by decide)) zc_RefM rfl rfl ?_
                refine xg_step rfl rfl (fun k => rfl) ?_
                refine xg_get rfl rfl (zha (by decide)) zc_RefM rfl rfl ?_
                refine xg_step rfl rfl (fun k => rfl) ?_
                refine xg_get rfl rfl (zha (by decide)) zc_RefM rfl rfl ?_
                refine xg_step rfl rfl (fun k => rfl) ?_
                refine xg_step rfl rfl (fun k => rfl) ?_
                refine zg_csi rfl rfl (by decide) rfl rfl (Nat.le_of_ble_eq_true rfl) rfl (zq_106 hB hC) ?_
                refine zg_ald (.inl ⟨rfl, rfl⟩) (zha (by decide)) zc_r_as (by decide) ⟨by omega, by omega⟩ (zvB (zk_as (by omega) (by omega)) (by omega)) ?_
                refine zg_ast (.inl ⟨rfl, rfl⟩) (zha (by decide)) zc_r_row (by decide) ⟨by omega, by omega⟩ (zhwB (zwC zk_row zw_r_row (by omega))) ?_
                refine xg_step rfl rfl (fun k => rfl) ?_
                refine xg_step rfl rfl (fun k => rfl) ?_
                refine zg_geti (x := C 107 17) rfl rfl (zha (by decide)) zc_RefM rfl (zup_ne (by omega)) ?_
                refine xg_step rfl rfl (fun k => rfl) ?_
                refine zg_add rfl ?_
                refine zg_put rfl rfl (zha (by decide)) zc_RefM (Nat.le_of_ble_eq_true rfl) rfl zfitI rfl (zhwB zw_RefM_17) ?_
                refine zg_inc rfl rfl rfl rfl ?_
                refine xg_step rfl rfl (fun k => rfl) ?_
                exact zql_118 hB (zRg_up (zRg_up hC (by first | assumption | exact hA _ _ | exact hB _ _ | exact hC _ _ | exact zrg_max (by assumption) (hA _ _) | (constructor <;> omega))) (by first | assumption | exact hA _ _ | exact hB _ _ | exact hC _ _ | exact zrg_max (by assumption) (hA _ _) | (constructor <;> omega))) (zLI_C hL (by rw [zup_row (by omega), zup_row (by omega)])) hu hl hi hj ha hb (k := k + 1) (by omega) (by rw [zup_eq ⟨rfl, rfl⟩]; omega) (hr.trans (by rw [zfi_s (by omega) (show zadf B i a j b u k C = _ from if_pos ⟨by omega, by omega, by omega, by first | exact .inl (by omega) | exact .inr (.inl (by omega)) | exact .inr (.inr (.inl (by assumption))) | exact .inr (.inr (.inr (by assumption)))⟩)]))
              ·
                refine xg_step rfl rfl (fun k => rfl) ?_
                refine xg_step rfl rfl (fun k => rfl) ?_
                refine xg_step rfl rfl (fun k => rfl) ?_
                refine xg_step rfl rfl (fun k => rfl) ?_
                refine xg_step rfl rfl (fun k => rfl) ?_
                refine xg_step rfl rfl (fun k => rfl) ?_
                refine xg_step rfl rfl (fun k => rfl) ?_
                refine xg_step rfl rfl (fun k => rfl) ?_
                refine xg_step rfl rfl (fun k => rfl) ?_
                refine zg_cvb rfl rfl rfl (Nat.le_of_ble_eq_true rfl) (zha (by decide)) zc_RefM rfl rfl (zq_116 hB hC (by omega) (by omega) (by first | assumption | exact hA _ _ | exact hB _ _ | exact hC _ _ | exact zrg_max (by assumption) (hA _ _) | (constructor <;> omega)) (by omega) hL) (fun hc => ?_) (fun hc => ?_)
                ·
                  refine xg_step rfl rfl (fun k => rfl) ?_
                  refine xg_step rfl rfl (fun k => rfl) ?_
                  refine xg_get rfl rfl (zha (by decide)) zc_RefM rfl rfl ?_
                  refine xg_step rfl rfl (fun k => rfl) ?_
                  refine xg_get rfl rfl (zha (by decide)) zc_RefM rfl rfl ?_
                  refine xg_step rfl rfl (fun k => rfl) ?_
                  refine xg_get rfl rfl (zha (by decide)) zc_RefM rfl rfl ?_
                  refine xg_step rfl rfl (fun k => rfl) ?_
                  refine xg_step rfl rfl (fun k => rfl) ?_
                  refine zg_csi rfl rfl (by decide) rfl rfl (Nat.le_of_ble_eq_true rfl) rfl (zq_106 hB hC) ?_
                  refine zg_ald (.inl ⟨rfl, rfl⟩) (zha (by decide)) zc_r_as (by decide) ⟨by omega, by omega⟩ (zvB (zk_as (by omega) (by omega)) (by omega)) ?_
                  refine zg_ast (.inl ⟨rfl, rfl⟩) (zha (by decide)) zc_r_row (by decide) ⟨by omega, by omega⟩ (zhwB (zwC zk_row zw_r_row (by omega))) ?_
                  refine xg_step rfl rfl (fun k => rfl) ?_
                  refine xg_step rfl rfl (fun k => rfl) ?_
                  refine zg_geti (x := C 107 17) rfl rfl (zha (by decide)) zc_RefM rfl (zup_ne (by omega)) ?_
                  refine xg_step rfl rfl (fun k => rfl) ?_
                  refine zg_add rfl ?_
                  refine zg_put rfl rfl (zha (by decide)) zc_RefM (Nat.le_of_ble_eq_true rfl) rfl zfitI rfl (zhwB zw_RefM_17) ?_
                  refine zg_inc rfl rfl rfl rfl ?_
                  refine xg_step rfl rfl (fun k => rfl) ?_
                  exact zql_118 hB (zRg_up (zRg_up hC (by first | assumption | exact hA _ _ | exact hB _ _ | exact hC _ _ | exact zrg_max (by assumption) (hA _ _) | (constructor <;> omega))) (by first | assumption | exact hA _ _ | exact hB _ _ | exact hC _ _ | exact zrg_max (by assumption) (hA _ _) | (constructor <;> omega))) (zLI_C hL (by rw [zup_row (by omega), zup_row (by omega)])) hu hl hi hj ha hb (k := k + 1) (by omega) (by rw [zup_eq ⟨rfl, rfl⟩]; omega) (hr.trans (by rw [zfi_s (by omega) (show zadf B i a j b u k C = _ from if_pos ⟨by omega, by omega, by omega, by first | exact .inl (by omega) | exact .inr (.inl (by omega)) | exact .inr (.inr (.inl (by assumption))) | exact .inr (.inr (.inr (by assumption)))⟩)]))
                ·
                  refine xg_step rfl rfl (fun k => rfl) ?_
                  refine xg_step rfl rfl (fun k => rfl) ?_
                  refine xg_step rfl rfl (fun k => rfl) ?_
                  refine xg_step rfl rfl (fun k => rfl) ?_
                  refine xg_step rfl rfl (fun k => rfl) ?_
                  refine xg_step rfl rfl (fun k => rfl) ?_
                  refine zg_cvb rfl rfl rfl (Nat.le_of_ble_eq_true rfl) (zha (by decide)) zc_RefM rfl rfl (zq_116 hB hC (by omega) (by omega) (by first | assumption | exact hA _ _ | exact hB _ _ | exact hC _ _ | exact zrg_max (by assumption) (hA _ _) | (constructor <;> omega)) (by omega) hL) (fun hc => ?_) (fun hc => ?_)
                  ·
                    refine xg_step rfl rfl (fun k => rfl) ?_
                    refine xg_step rfl rfl (fun k => rfl) ?_
                    refine xg_get rfl rfl (zha (by decide)) zc_RefM rfl rfl ?_
                    refine xg_step rfl rfl (fun k => rfl) ?_
                    refine xg_get rfl rfl (zha (by decide)) zc_RefM rfl rfl ?_
                    refine xg_step rfl rfl (fun k => rfl) ?_
                    refine xg_get rfl rfl (zha (by decide)) zc_RefM rfl rfl ?_
                    refine xg_step rfl rfl (fun k => rfl) ?_
                    refine xg_step rfl rfl (fun k => rfl) ?_
                    refine zg_csi rfl rfl (by decide) rfl rfl (Nat.le_of_ble_eq_true rfl) rfl (zq_106 hB hC) ?_
                    refine zg_ald (.inl ⟨rfl, rfl⟩) (zha (by decide)) zc_r_as (by decide) ⟨by omega, by omega⟩ (zvB (zk_as (by omega) (by omega)) (by omega)) ?_
                    refine zg_ast (.inl ⟨rfl, rfl⟩) (zha (by decide)) zc_r_row (by decide) ⟨by omega, by omega⟩ (zhwB (zwC zk_row zw_r_row (by omega))) ?_
                    refine xg_step rfl rfl (fun k => rfl) ?_
                    refine xg_step rfl rfl (fun k => rfl) ?_
                    refine zg_geti (x := C 107 17) rfl rfl (zha (by decide)) zc_RefM rfl (zup_ne (by omega)) ?_
                    refine xg_step rfl rfl (fun k => rfl) ?_
                    refine zg_add rfl ?_
                    refine zg_put rfl rfl (zha (by decide)) zc_RefM (Nat.le_of_ble_eq_true rfl) rfl zfitI rfl (zhwB zw_RefM_17) ?_
                    refine zg_inc rfl rfl rfl rfl ?_
                    refine xg_step rfl rfl (fun k => rfl) ?_
                    exact zql_118 hB (zRg_up (zRg_up hC (by first | assumption | exact hA _ _ | exact hB _ _ | exact hC _ _ | exact zrg_max (by assumption) (hA _ _) | (constructor <;> omega))) (by first | assumption | exact hA _ _ | exact hB _ _ | exact hC _ _ | exact zrg_max (by assumption) (hA _ _) | (constructor <;> omega))) (zLI_C hL (by rw [zup_row (by omega), zup_row (by omega)])) hu hl hi hj ha hb (k := k + 1) (by omega) (by rw [zup_eq ⟨rfl, rfl⟩]; omega) (hr.trans (by rw [zfi_s (by omega) (show zadf B i a j b u k C = _ from if_pos ⟨by omega, by omega, by omega, by first | exact .inl (by omega) | exact .inr (.inl (by omega)) | exact .inr (.inr (.inl (by assumption))) | exact .inr (.inr (.inr (by assumption)))⟩)]))
                  ·
                    refine xg_step rfl rfl (fun k => rfl) ?_
                    refine xg_step rfl rfl (fun k => rfl) ?_
                    refine zg_inc rfl rfl rfl rfl ?_
                    refine xg_step rfl rfl (fun k => rfl) ?_
                    exact zql_118 hB hC hL hu hl hi hj ha hb (k := k + 1) (by omega) (by omega) (hr.trans (by rw [zfi_s (by omega) (show zadf B i a j b u k C = C from if_neg (fun q => by obtain ⟨q1, q2, q3, q4⟩ := q; first | omega | (rcases q4 with q4 | q4 | q4 | q4 <;> first | omega | contradiction)))]))
            ·
              refine xg_step rfl rfl (fun k => rfl) ?_
              refine xg_step rfl rfl (fun k => rfl) ?_
              refine xg_step rfl rfl (fun k => rfl) ?_
              refine xg_step rfl rfl (fun k => rfl) ?_
              refine xg_step rfl rfl (fun k => rfl) ?_
              refine xg_step rfl rfl (fun k => rfl) ?_
              refine xg_step rfl rfl (fun k => rfl) ?_
              refine xg_step rfl rfl (fun k => rfl) ?_
              refine xg_step rfl rfl (fun k => rfl) ?_
              refine zg_cvb rfl rfl rfl (Nat.le_of_ble_eq_true rfl) (zha (by decide)) zc_RefM rfl rfl (zq_116 hB hC (by omega) (by omega) (by first | assumption | exact hA _ _ | exact hB _ _ | exact hC _ _ | exact zrg_max (by assumption) (hA _ _) | (constructor <;> omega)) (by omega) hL) (fun hc => ?_) (fun hc => ?_)
              ·
                refine xg_step rfl rfl (fun k => rfl) ?_
                refine xg_step rfl rfl (fun k => rfl) ?_
                refine xg_get rfl rfl (zha (by decide)) zc_RefM rfl rfl ?_
                refine xg_step rfl rfl (fun k => rfl) ?_
                refine xg_get rfl rfl (zha (by decide)) zc_RefM rfl rfl ?_
                refine xg_step rfl rfl (fun k => rfl) ?_
                refine xg_get rfl rfl (zha (by decide)) zc_RefM rfl rfl ?_
                refine xg_step rfl rfl (fun k => rfl) ?_
                refine xg_step rfl rfl (fun k => rfl) ?_
                refine zg_csi rfl rfl (by decide) rfl rfl (Nat.le_of_ble_eq_true rfl) rfl (zq_106 hB hC) ?_
                refine zg_ald (.inl ⟨rfl, rfl⟩) (zha (by decide)) zc_r_as (by decide) ⟨by omega, by omega⟩ (zvB (zk_as (by omega) (by omega)) (by omega)) ?_
                refine zg_ast (.inl ⟨rfl, rfl⟩) (zha (by decide)) zc_r_row (by decide) ⟨by omega, by omega⟩ (zhwB (zwC zk_row zw_r_row (by omega))) ?_
                refine xg_step rfl rfl (fun k => rfl) ?_
                refine xg_step rfl rfl (fun k => rfl) ?_
                refine zg_geti (x := C 107 17) rfl rfl (zha (by decide)) zc_RefM rfl (zup_ne (by omega)) ?_
                refine xg_step rfl rfl (fun k => rfl) ?_
                refine zg_add rfl ?_
                refine zg_put rfl rfl (zha (by decide)) zc_RefM (Nat.le_of_ble_eq_true rfl) rfl zfitI rfl (zhwB zw_RefM_17) ?_
                refine zg_inc rfl rfl rfl rfl ?_
                refine xg_step rfl rfl (fun k => rfl) ?_
                exact zql_118 hB (zRg_up (zRg_up hC (by first | assumption | exact hA _ _ | exact hB _ _ | exact hC _ _ | exact zrg_max (by assumption) (hA _ _) | (constructor <;> omega))) (by first | assumption | exact hA _ _ | exact hB _ _ | exact hC _ _ | exact zrg_max (by assumption) (hA _ _) | (constructor <;> omega))) (zLI_C hL (by rw [zup_row (by omega), zup_row (by omega)])) hu hl hi hj ha hb (k := k + 1) (by omega) (by rw [zup_eq ⟨rfl, rfl⟩]; omega) (hr.trans (by rw [zfi_s (by omega) (show zadf B i a j b u k C = _ from if_pos ⟨by omega, by omega, by omega, by first | exact .inl (by omega) | exact .inr (.inl (by omega)) | exact .inr (.inr (.inl (by assumption))) | exact .inr (.inr (.inr (by assumption)))⟩)]))
              ·
                refine xg_step rfl rfl (fun k => rfl) ?_
                refine xg_step rfl rfl (fun k => rfl) ?_
                refine xg_step rfl rfl (fun k => rfl) ?_
                refine xg_step rfl rfl (fun k => rfl) ?_
                refine xg_step rfl rfl (fun k => rfl) ?_
                refine xg_step rfl rfl (fun k => rfl) ?_
                refine zg_cvb rfl rfl rfl (Nat.le_of_ble_eq_true rfl) (zha (by decide)) zc_RefM rfl rfl (zq_116 hB hC (by omega) (by omega) (by first | assumption | exact hA _ _ | exact hB _ _ | exact hC _ _ | exact zrg_max (by assumption) (hA _ _) | (constructor <;> omega)) (by omega) hL) (fun hc => ?_) (fun hc => ?_)
                ·
                  refine xg_step rfl rfl (fun k => rfl) ?_
                  refine xg_step rfl rfl (fun k => rfl) ?_
                  refine xg_get rfl rfl (zha (by decide)) zc_RefM rfl rfl ?_
                  refine xg_step rfl rfl (fun k => rfl) ?_
                  refine xg_get rfl rfl (zha (by decide)) zc_RefM rfl rfl ?_
                  refine xg_step rfl rfl (fun k => rfl) ?_
                  refine xg_get rfl rfl (zha (by decide)) zc_RefM rfl rfl ?_
                  refine xg_step rfl rfl (fun k => rfl) ?_
                  refine xg_step rfl rfl (fun k => rfl) ?_
                  refine zg_csi rfl rfl (by decide) rfl rfl (Nat.le_of_ble_eq_true rfl) rfl (zq_106 hB hC) ?_
                  refine zg_ald (.inl ⟨rfl, rfl⟩) (zha (by decide)) zc_r_as (by decide) ⟨by omega, by omega⟩ (zvB (zk_as (by omega) (by omega)) (by omega)) ?_
                  refine zg_ast (.inl ⟨rfl, rfl⟩) (zha (by decide)) zc_r_row (by decide) ⟨by omega, by omega⟩ (zhwB (zwC zk_row zw_r_row (by omega))) ?_
                  refine xg_step rfl rfl (fun k => rfl) ?_
                  refine xg_step rfl rfl (fun k => rfl) ?_
                  refine zg_geti (x := C 107 17) rfl rfl (zha (by decide)) zc_RefM rfl (zup_ne (by omega)) ?_
                  refine xg_step rfl rfl (fun k => rfl) ?_
                  refine zg_add rfl ?_
                  refine zg_put rfl rfl (zha (by decide)) zc_RefM (Nat.le_of_ble_eq_true rfl) rfl zfitI rfl (zhwB zw_RefM_17) ?_
                  refine zg_inc rfl rfl rfl rfl ?_
                  refine xg_step rfl rfl (fun k => rfl) ?_
                  exact zql_118 hB (zRg_up (zRg_up hC (by first | assumption | exact hA _ _ | exact hB _ _ | exact hC _ _ | exact zrg_max (by assumption) (hA _ _) | (constructor <;> omega))) (by first | assumption | exact hA _ _ | exact hB _ _ | exact hC _ _ | exact zrg_max (by assumption) (hA _ _) | (constructor <;> omega))) (zLI_C hL (by rw [zup_row (by omega), zup_row (by omega)])) hu hl hi hj ha hb (k := k + 1) (by omega) (by rw [zup_eq ⟨rfl, rfl⟩]; omega) (hr.trans (by rw [zfi_s (by omega) (show zadf B i a j b u k C = _ from if_pos ⟨by omega, by omega, by omega, by first | exact .inl (by omega) | exact .inr (.inl (by omega)) | exact .inr (.inr (.inl (by assumption))) | exact .inr (.inr (.inr (by assumption)))⟩)]))
                ·
                  refine xg_step rfl rfl (fun k => rfl) ?_
                  refine xg_step rfl rfl (fun k => rfl) ?_
                  refine zg_inc rfl rfl rfl rfl ?_
                  refine xg_step rfl rfl (fun k => rfl) ?_
                  exact zql_118 hB hC hL hu hl hi hj ha hb (k := k + 1) (by omega) (by omega) (hr.trans (by rw [zfi_s (by omega) (show zadf B i a j b u k C = C from if_neg (fun q => by obtain ⟨q1, q2, q3, q4⟩ := q; first | omega | (rcases q4 with q4 | q4 | q4 | q4 <;> first | omega | contradiction)))]))
      ·
        refine zg_inc rfl rfl rfl rfl ?_
        refine xg_step rfl rfl (fun k => rfl) ?_
        exact zql_118 hB hC hL hu hl hi hj ha hb (k := k + 1) (by omega) (by omega) (hr.trans (by rw [zfi_s (by omega) (show zadf B i a j b u k C = C from if_neg (fun q => by obtain ⟨q1, q2, q3, q4⟩ := q; first | omega | (rcases q4 with q4 | q4 | q4 | q4 <;> first | omega | contradiction)))]))
    ·
      refine zg_inc rfl rfl rfl rfl ?_
      refine xg_step rfl rfl (fun k => rfl) ?_
      exact zql_118 hB hC hL hu hl hi hj ha hb (k := k + 1) (by omega) (by omega) (hr.trans (by rw [zfi_s (by omega) (show zadf B i a j b u k C = C from if_neg (fun q => by obtain ⟨q1, q2, q3, q4⟩ := q; first | omega | (rcases q4 with q4 | q4 | q4 | q4 <;> first | omega | contradiction)))]))
termination_by (B (44 + 2 * (u % 3)) 1 + 1 - k).toNat
decreasing_by all_goals omega
def zadW (B : ZM) (w u : Int) (C : ZM) : ZM := zfi (zadf B (zoa B w % 3) (zoa B w / 3) (zob B w % 3) (zob B w / 3) u) 1 (B (44 + 2 * (u % 3)) 1) C
set_option maxRecDepth 10000 in
theorem zq_118 {d : Nat} {A B C : ZM} (hB : zRg B) (hC : zRg C) (hL : zLI B C) {w u : Int} (hw : 1 ≤ w ∧ w < 31) (ho : 1 ≤ B 10 w) (hu : 0 ≤ u ∧ u < 31) (hrm : 0 ≤ C 107 17 ∧ C 107 17 ≤ 300) : XR (d + 11) 118 [.ref 107, zci (w), zci (u)] (zhp A (zmg B C)) (none, zhp A (zmg B (zadW B w u C))) := by
  obtain ⟨o1, o2, o3, o4, o5, o6⟩ := zop_ok hL hw ho
  simp only [zoa, zob] at o2 o3 o4 o5 o6
  have hcw := hL.1 (w % 3) (by omega)
  have hcu := hL.1 (u % 3) (by omega)
  refine XR.of (Nat.le_of_ble_eq_true rfl) rfl ?_
  refine xg_step rfl rfl (fun k => rfl) ?_
  refine xg_step rfl rfl (fun k => rfl) ?_
  refine zg_rem rfl (by omega) ?_
  refine xg_step rfl rfl (fun k => rfl) ?_
  refine xg_step rfl rfl (fun k => rfl) ?_
  refine zg_cvi rfl rfl rfl (Nat.le_of_ble_eq_true rfl) (zha (by decide)) zc_RefM rfl rfl (zq_111 hB hC hL (by omega)) ?_
  refine zg_csi rfl rfl (by decide) rfl rfl (Nat.le_of_ble_eq_true rfl) rfl (zq_106 hB hC) ?_
  refine xg_step rfl rfl (fun k => rfl) ?_
  refine xg_step rfl rfl (fun k => rfl) ?_
  refine xg_get rfl rfl (zha (by decide)) zc_RefM rfl rfl ?_
  refine xg_step rfl rfl (fun k => rfl) ?_
  refine zg_ald (.inl ⟨rfl, rfl⟩) (zha (by decide)) zc_r_as (by decide) ⟨by omega, by omega⟩ (zvB (zk_as (by omega) (by omega)) (by omega)) ?_
  refine xg_step rfl rfl (fun k => rfl) ?_
  refine zg_rem rfl (by omega) ?_
  refine xg_step rfl rfl (fun k => rfl) ?_
  refine xg_step rfl rfl (fun k => rfl) ?_
  refine xg_get rfl rfl (zha (by decide)) zc_RefM rfl rfl ?_
  refine xg_step rfl rfl (fun k => rfl) ?_
  refine zg_ald (.inl ⟨rfl, rfl⟩) (zha (by decide)) zc_r_as (by decide) ⟨by omega, by omega⟩ (zvB (zk_as (by omega) (by omega)) (by omega)) ?_
  refine xg_step rfl rfl (fun k => rfl) ?_
  refine zg_div rfl (by omega) ?_
  refine xg_step rfl rfl (fun k => rfl) ?_
  refine xg_step rfl rfl (fun k => rfl) ?_
  refine xg_get rfl rfl (zha (by decide)) zc_RefM rfl rfl ?_
  refine xg_step rfl rfl (fun k => rfl) ?_
  refine zg_ald (.inl ⟨rfl, rfl⟩) (zha (by decide)) zc_r_bs (by decide) ⟨by omega, by omega⟩ (zvB (zk_bs (by omega) (by omega)) (by omega)) ?_
  refine xg_step rfl rfl (fun k => rfl) ?_
  refine zg_rem rfl (by omega) ?_
  refine xg_step rfl rfl (fun k => rfl) ?_
  refine xg_step rfl rfl (fun k => rfl) ?_
  refine xg_get rfl rfl (zha (by decide)) zc_RefM rfl rfl ?_
  refine xg_step rfl rfl (fun k => rfl) ?_
  refine zg_ald (.inl ⟨rfl, rfl⟩) (zha (by decide)) zc_r_bs (by decide) ⟨by omega, by omega⟩ (zvB (zk_bs (by omega) (by omega)) (by omega)) ?_
  refine xg_step rfl rfl (fun k => rfl) ?_
  refine zg_div rfl (by omega) ?_
  refine xg_step rfl rfl (fun k => rfl) ?_
  refine xg_step rfl rfl (fun k => rfl) ?_
  refine xg_step rfl rfl (fun k => rfl) ?_
  refine zg_rem rfl (by omega) ?_
  refine xg_step rfl rfl (fun k => rfl) ?_
  refine xg_step rfl rfl (fun k => rfl) ?_
  refine xg_step rfl rfl (fun k => rfl) ?_
  exact zql_118 hB hC hL hu rfl (by omega) (by omega) (by omega) (by omega) (k := 1) (by omega) (by omega) rfl
theorem zadf_keep {B : ZM} {i a j b u k : Int} {C : ZM} {c : Int} (h1 : c ≠ 121) (h2 : c ≠ 107) : zadf B i a j b u k C c = C c := by
  unfold zadf
  split
  · rw [zup_row h2, zup_row h1]
  · rfl
theorem zadW_row {B : ZM} {w u : Int} {C : ZM} {c : Int} (h1 : c ≠ 121) (h2 : c ≠ 107) : zadW B w u C c = C c := zfi_keep (P := fun M : ZM => M c = C c) (fun k M q => (zadf_keep h1 h2).trans q) _ _ _ _ rfl rfl
def zdn (B : ZM) : Nat → Int → Int → ZM → ZM × Int
  | 0, n, _, C => (C, n)
  | f + 1, n, u, C => if u ≤ 0 then (C, n) else zdn B f (n + 1) (zBF B u) (zup C 122 n u)
theorem zdn_S {B C : ZM} {f : Nat} {n u : Int} : zdn B (f + 1) n u C = if u ≤ 0 then (C, n) else zdn B f (n + 1) (zBF B u) (zup C 122 n u) := rfl
def zchk (B : ZM) : Nat → Int → Prop
  | 0, _ => True
  | f + 1, u => 1 ≤ u → 1 ≤ B 10 u ∧ zchk B f (zBF B u)
theorem zBF_rg {B : ZM} {w : Int} (h : 1 ≤ w) : 0 ≤ zBF B w ∧ zBF B w ≤ w - 1 := zbfi_rg (by omega)
def zad2 (B : ZM) (n : Int) : Nat → ZM → ZM
  | 0, C => C
  | m + 1, C => zad2 B n m (zadW B (C 122 m) (if (m : Int) = n - 1 then 0 else C 122 ((m : Int) + 1)) C)
theorem zad2_S {B C : ZM} {n : Int} {m : Nat} : zad2 B n (m + 1) C = zad2 B n m (zadW B (C 122 m) (if (m : Int) = n - 1 then 0 else C 122 ((m : Int) + 1)) C) := rfl
def zad2ok (B : ZM) (n : Int) : Nat → ZM → Prop
  | 0, _ => True
  | m + 1, C => zRg C ∧ zLI B C ∧ (1 ≤ C 122 m ∧ C 122 m < 31) ∧ 1 ≤ B 10 (C 122 m) ∧ (¬ (m : Int) = n - 1 → 0 ≤ C 122 ((m : Int) + 1) ∧ C 122 ((m : Int) + 1) < 31) ∧ (0 ≤ C 107 17 ∧ C 107 17 ≤ 300) ∧ zad2ok B n m (zadW B (C 122 m) (if (m : Int) = n - 1 then 0 else C 122 ((m : Int) + 1)) C)
set_option maxRecDepth 10000 in
theorem zql_119a {d : Nat} {A B C : ZM} (hB : zRg B) (hC : zRg C) (hL : zLI B C) {w n u : Int} (f : Nat) (hf : u ≤ f) (hu : 0 ≤ u) (hn : 0 ≤ n ∧ n + u ≤ 30) (hch : zchk B f u) {r : Option Value × XS} (hx : ∀ C1 n1 u1, (C1, n1) = zdn B f n u C → XG (d + 12) 119 27 [some (.ref 107), some (zci w), some (zci n1), some (zci u1)] [] (zhp A (zmg B C1)) r) : XG (d + 12) 119 4 [some (.ref 107), some (zci (w)), some (zci (n)), some (zci (u))] [] (zhp A (zmg B C)) r := by
  refine xg_step rfl rfl (fun k => rfl) ?_
  refine zg_gt0 rfl rfl (fun x k => rfl) (by first | assumption | exact hA _ _ | exact hB _ _ | exact hC _ _ | exact zrg_max (by assumption) (hA _ _) | (constructor <;> omega)) (fun hc => ?_) (fun hc => ?_)
  ·
    obtain ⟨f1, hf1⟩ : ∃ f1, f = f1 + 1 := ⟨f - 1, by omega⟩
    obtain ⟨ho, hc2⟩ : 1 ≤ B 10 u ∧ zchk B f1 (zBF B u) := by rw [hf1] at hch; exact hch (by omega)
    have hC1 : zRg (zup C 122 n u) := zRg_up hC ⟨by omega, by omega⟩
    have hL' : zLI B (zup C 122 n u) := zLI_C hL (zup_row (by omega))
    refine xg_step rfl rfl (fun k => rfl) ?_
    refine xg_get rfl rfl (zha (by decide)) zc_RefM rfl rfl ?_
    refine xg_step rfl rfl (fun k => rfl) ?_
    refine xg_step rfl rfl (fun k => rfl) ?_
    refine zg_ast (.inl ⟨rfl, rfl⟩) (zha (by decide)) zc_r_down (by decide) ⟨by omega, by omega⟩ (zhwB (zwC zk_down zw_r_down (by omega))) ?_
    refine zg_inc rfl rfl rfl rfl ?_
    refine xg_step rfl rfl (fun k => rfl) ?_
    refine xg_step rfl rfl (fun k => rfl) ?_
    refine zg_cvi rfl rfl rfl (Nat.le_of_ble_eq_true rfl) (zha (by decide)) zc_RefM rfl rfl (zq_117 hB (zRg_up hC (by first | assumption | exact hA _ _ | exact hB _ _ | exact hC _ _ | exact zrg_max (by assumption) (hA _ _) | (constructor <;> omega))) hL' (by omega) ho) ?_
    refine xg_step rfl rfl (fun k => rfl) ?_
    refine xg_step rfl rfl (fun k => rfl) ?_
    exact zql_119a hB hC1 hL' f1 (by have := zBF_rg (B := B) (w := u) (by omega); omega) (by have := zBF_rg (B := B) (w := u) (by omega); omega) (by have := zBF_rg (B := B) (w := u) (by omega); omega) hc2 (fun C1 n1 u1 e => hx C1 n1 u1 (e.trans (by rw [hf1, zdn_S, if_neg (by omega)])))
  ·
    exact hx C n u (by cases f with | zero => rfl | succ f => unfold zdn; rw [if_pos (by omega)])
termination_by f
decreasing_by all_goals omega
set_option maxRecDepth 10000 in
theorem zql_119b {d : Nat} {A B C : ZM} (hB : zRg B) {w n k : Int} (hk : -1 ≤ k ∧ k < n ∧ n ≤ 31) (hok : zad2ok B n (k + 1).toNat C) {r : Option Value × XS} (hr : r = (none, zhp A (zmg B (zad2 B n (k + 1).toNat C)))) : XG (d + 12) 119 36 [some (.ref 107), some (zci (w)), some (zci (n)), some (zci (k))] [] (zhp A (zmg B C)) r := by
  refine xg_step rfl rfl (fun k => rfl) ?_
  refine zg_lt0 rfl rfl (fun x k => rfl) (by first | assumption | exact hA _ _ | exact hB _ _ | exact hC _ _ | exact zrg_max (by assumption) (hA _ _) | (constructor <;> omega)) (fun hc => ?_) (fun hc => ?_)
  ·
    refine zg_ret rfl rfl ?_
    (rw [hr, show (k + 1).toNat = 0 by omega]; rfl)
  ·
    obtain ⟨m, hm⟩ : ∃ m, (k + 1).toNat = m + 1 := ⟨k.toNat, by omega⟩
    have hmk : (m : Int) = k := by omega
    rw [hm] at hok
    unfold zad2ok at hok
    rw [hmk] at hok
    obtain ⟨hC, hL, q1, q2, q3, q4, q5⟩ := hok
    refine xg_step rfl rfl (fun k => rfl) ?_
    refine xg_step rfl rfl (fun k => rfl) ?_
    refine xg_get rfl rfl (zha (by decide)) zc_RefM rfl rfl ?_
    refine xg_step rfl rfl (fun k => rfl) ?_
    refine zg_ald (.inl ⟨rfl, rfl⟩) (zha (by decide)) zc_r_down (by decide) ⟨by omega, by omega⟩ (zvC zk_down (by omega)) ?_
    refine xg_step rfl rfl (fun k => rfl) ?_
    refine xg_step rfl rfl (fun k => rfl) ?_
    refine xg_step rfl rfl (fun k => rfl) ?_
    refine zg_sub rfl ?_
    refine zg_eq rfl rfl (fun x y k => rfl) (by first | assumption | exact hA _ _ | exact hB _ _ | exact hC _ _ | exact zrg_max (by assumption) (hA _ _) | (constructor <;> omega)) (by first | assumption | exact hA _ _ | exact hB _ _ | exact hC _ _ | exact zrg_max (by assumption) (hA _ _) | (constructor <;> omega)) (fun hc => ?_) (fun hc => ?_)
    ·
      refine xg_step rfl rfl (fun k => rfl) ?_
      refine xg_step rfl rfl (fun k => rfl) ?_
      refine zg_cvv rfl rfl rfl (Nat.le_of_ble_eq_true rfl) (zha (by decide)) zc_RefM rfl rfl (zq_118 hB hC hL q1 q2 (by omega) q4) ?_
      refine zg_inc rfl rfl rfl rfl ?_
      refine xg_step rfl rfl (fun k => rfl) ?_
      exact zql_119b hB (by omega) (by rw [show (k + -1 + 1).toNat = m by omega]; rw [if_pos (by omega)] at q5; exact q5) (by rw [show (k + -1 + 1).toNat = m by omega, hr, hm, zad2_S, hmk]; rw [if_pos (by omega)])
    ·
      refine xg_step rfl rfl (fun k => rfl) ?_
      refine xg_get rfl rfl (zha (by decide)) zc_RefM rfl rfl ?_
      refine xg_step rfl rfl (fun k => rfl) ?_
      refine xg_step rfl rfl (fun k => rfl) ?_
      refine zg_add rfl ?_
      refine zg_ald (.inl ⟨rfl, rfl⟩) (zha (by decide)) zc_r_down (by decide) ⟨by omega, by omega⟩ (zvC zk_down (by omega)) ?_
      refine zg_cvv rfl rfl rfl (Nat.le_of_ble_eq_true rfl) (zha (by decide)) zc_RefM rfl rfl (zq_118 hB hC hL q1 q2 (by omega) q4) ?_
      refine zg_inc rfl rfl rfl rfl ?_
      refine xg_step rfl rfl (fun k => rfl) ?_
      exact zql_119b hB (by omega) (by rw [show (k + -1 + 1).toNat = m by omega]; rw [if_neg (by omega)] at q5; exact q5) (by rw [show (k + -1 + 1).toNat = m by omega, hr, hm, zad2_S, hmk]; rw [if_neg (by omega)])
termination_by (k + 1).toNat
decreasing_by all_goals omega
def zrwC (B : ZM) (w : Int) (C : ZM) : ZM := zad2 B (zdn B 31 0 w C).2 (zdn B 31 0 w C).2.toNat (zup (zdn B 31 0 w C).1 107 17 0)
theorem zdn_n {B : ZM} : ∀ (f : Nat) (n u : Int) (C : ZM), 0 ≤ u → n + u ≤ 30 → n ≤ (zdn B f n u C).2 ∧ (zdn B f n u C).2 ≤ 30
  | 0, n, u, C, h1, h2 => ⟨by show n ≤ n; omega, by show n ≤ 30; omega⟩
  | f + 1, n, u, C, h1, h2 => by
    rw [zdn_S]
    split
    · exact ⟨by show n ≤ n; omega, by show n ≤ 30; omega⟩
    · have q := zBF_rg (B := B) (w := u) (by omega)
      have := zdn_n (B := B) f (n + 1) (zBF B u) (zup C 122 n u) q.1 (by omega)
      omega
set_option maxRecDepth 10000 in
theorem zq_119 {d : Nat} {A B C : ZM} (hB : zRg B) (hC : zRg C) (hL : zLI B C) {w : Int} (hw : 0 ≤ w ∧ w < 31) (hch : zchk B 31 w) (hok : zad2ok B (zdn B 31 0 w C).2 (zdn B 31 0 w C).2.toNat (zup (zdn B 31 0 w C).1 107 17 0)) : XR (d + 13) 119 [.ref 107, zci w] (zhp A (zmg B C)) (none, zhp A (zmg B (zrwC B w C))) := by
  have hn := zdn_n (B := B) 31 0 w C hw.1 (by omega)
  refine XR.of (Nat.le_of_ble_eq_true rfl) rfl ?_
  iterate 4 refine xg_step rfl rfl (fun k => rfl) ?_
  refine zql_119a (w := w) hB hC hL 31 (by omega) hw.1 (by omega) hch (fun C1 n1 u1 e => ?_)
  have e1 : C1 = (zdn B 31 0 w C).1 := congrArg Prod.fst e
  have e2 : n1 = (zdn B 31 0 w C).2 := congrArg Prod.snd e
  iterate 2 refine xg_step rfl rfl (fun k => rfl) ?_
  refine zg_put rfl rfl (zha (by decide)) zc_RefM (Nat.le_of_ble_eq_true rfl) rfl zfitI rfl (zhwB zw_RefM_17) ?_
  iterate 2 refine xg_step rfl rfl (fun k => rfl) ?_
  refine zg_sub rfl ?_
  refine xg_step rfl rfl (fun k => rfl) ?_
  refine zql_119b hB (by omega) (by rw [show (n1 - 1 + 1).toNat = n1.toNat by omega, e1, e2]; exact hok) ?_
  rw [show (n1 - 1 + 1).toNat = n1.toNat by omega, e1, e2]
  rfl
