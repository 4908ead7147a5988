/-! the reference's rows -/
def zHO (B : ZM) (s u : Int) (k : Int) : Bool := decide (B (45 + 2 * s) (k * 5 + 1) = u ∧ ((B (45 + 2 * s) (k * 5 + 0) = 3 ∧ B 10 u = k ∧ u % 3 = s) ∨ (¬ B (45 + 2 * s) (k * 5 + 0) = 3 ∧ ¬ B (45 + 2 * s) (k * 5 + 0) = 2 ∧ B (45 + 2 * s) (k * 5 + 4) = 0)))
def zTel (B : ZM) (s u n : Int) (k : Int) : Bool := decide (B (45 + 2 * s) (k * 5 + 0) = 1 ∧ B (45 + 2 * s) (k * 5 + 1) = u ∧ B (45 + 2 * s) (k * 5 + 2) = n ∧ B (45 + 2 * s) (k * 5 + 4) = 0)
theorem zop_rg {B C : ZM} (hL : zLI B C) {u : Int} (hu : 0 ≤ u ∧ u < 31) : 0 ≤ B 10 u ∧ B 10 u ≤ 100 := by
  by_cases e : u = 0
  · rw [e, hL.2.2.1]; omega
  · have e1 := (hL.2.2.2 u (by omega)).1
    have e2 := hL.1 (u % 3) (by omega)
    omega
set_option maxRecDepth 10000 in
theorem zql_115 {d : Nat} {A B C : ZM} (hB : zRg B) (hC : zRg C) {s u e l : Int} (hs : 0 ≤ s ∧ s < 3) (hu : 0 ≤ u ∧ u < 31) (he : 1 ≤ e ∧ e < 1000) (hl : l = min (e - 1) (B (44 + 2 * s) 1)) (hL : zLI B C) {o6 o7 : Option Value} {h i : Int} (h01 : h = 0 ∨ h = 1) (hi : 1 ≤ i) (hil : i ≤ l + 1) (hh : h = zb2 (zex (zHO B s u) (i - 1) = true)) {r : Option Value × XS} (hr : r = (some (zci (zb2 (zex (zHO B s u) l = true))), zhp A (zmg B C))) : XG (d + 8) 115 6 [some (.ref 107), some (zci (s)), some (zci (u)), some (zci (e)), some (zci (h)), some (zci (i)), o6, o7] [] (zhp A (zmg B C)) r := by
  have hcs := hL.1 s hs
  have hou : 0 ≤ B 10 u ∧ B 10 u ≤ 100 := zop_rg hL hu
  refine xg_step rfl rfl (fun k => rfl) ?_
  refine xg_step rfl rfl (fun k => rfl) ?_
  refine zg_lt rfl rfl (fun x y k => rfl) (by first | assumption | exact hA _ _ | exact hB _ _ | exact hC _ _ | exact zrg_max (by assumption) (hA _ _) | (constructor <;> omega)) (by first | assumption | exact hA _ _ | exact hB _ _ | exact hC _ _ | exact zrg_max (by assumption) (hA _ _) | (constructor <;> omega)) (fun hc => ?_) (fun hc => ?_)
  ·
    refine xg_step rfl rfl (fun k => rfl) ?_
    refine xg_step rfl rfl (fun k => rfl) ?_
    refine xg_get rfl rfl (zha (by decide)) zc_RefM rfl rfl ?_
    refine xg_step rfl rfl (fun k => rfl) ?_
    refine zg_ald (.inl ⟨rfl, rfl⟩) (zha (by decide)) zc_r_many (by decide) ⟨by omega, by omega⟩ (zvB (zk_many (by omega)) (by omega)) ?_
    refine zg_gt rfl rfl (fun x y k => rfl) (by first | assumption | exact hA _ _ | exact hB _ _ | exact hC _ _ | exact zrg_max (by assumption) (hA _ _) | (constructor <;> omega)) (by first | assumption | exact hA _ _ | exact hB _ _ | exact hC _ _ | exact zrg_max (by assumption) (hA _ _) | (constructor <;> omega)) (fun hc => ?_) (fun hc => ?_)
    ·
      refine xg_step rfl rfl (fun k => rfl) ?_
      refine zg_iret rfl rfl (zfitZ (by omega)) ?_
      (rw [hr, hh, show i - 1 = l by omega])
    ·
      refine xg_step rfl rfl (fun k => rfl) ?_
      refine xg_step rfl rfl (fun k => rfl) ?_
      refine zg_csi rfl rfl (by decide) rfl rfl (Nat.le_of_ble_eq_true rfl) rfl (zq_106 hB hC) ?_
      refine xg_step rfl rfl (fun k => rfl) ?_
      refine xg_step rfl rfl (fun k => rfl) ?_
      refine xg_get rfl rfl (zha (by decide)) zc_RefM rfl rfl ?_
      refine xg_step rfl rfl (fun k => rfl) ?_
      refine zg_ald (.inl ⟨rfl, rfl⟩) (zha (by decide)) zc_r_views (by decide) ⟨by omega, by omega⟩ (zvB (zk_views (by omega) (by omega)) (by omega)) ?_
      refine xg_step rfl rfl (fun k => rfl) ?_
      refine zg_eq rfl rfl (fun x y k => rfl) (by first | assumption | exact hA _ _ | exact hB _ _ | exact hC _ _ | exact zrg_max (by assumption) (hA _ _) | (constructor <;> omega)) (by first | assumption | exact hA _ _ | exact hB _ _ | exact hC _ _ | exact zrg_max (by assumption) (hA _ _) | (constructor <;> omega)) (fun hc => ?_) (fun hc => ?_)
      ·
        refine xg_step rfl rfl (fun k => rfl) ?_
        refine xg_get rfl rfl (zha (by decide)) zc_RefM rfl rfl ?_
        refine xg_step rfl rfl (fun k => rfl) ?_
        refine zg_ald (.inl ⟨rfl, rfl⟩) (zha (by decide)) zc_r_kinds (by decide) ⟨by omega, by omega⟩ (zvB (zk_kinds (by omega) (by omega)) (by omega)) ?_
        refine xg_step rfl rfl (fun k => rfl) ?_
        refine zg_eq rfl rfl (fun x y k => rfl) (by first | assumption | exact hA _ _ | exact hB _ _ | exact hC _ _ | exact zrg_max (by assumption) (hA _ _) | (constructor <;> omega)) (by first | assumption | exact hA _ _ | exact hB _ _ | exact hC _ _ | exact zrg_max (by assumption) (hA _ _) | (constructor <;> omega)) (fun hc => ?_) (fun hc => ?_)
        ·
          refine xg_step rfl rfl (fun k => rfl) ?_
          refine xg_step rfl rfl (fun k => rfl) ?_
          refine zg_cvi rfl rfl rfl (Nat.le_of_ble_eq_true rfl) (zha (by decide)) zc_RefM rfl rfl (zq_111 hB hC hL (by omega)) ?_
          refine xg_step rfl rfl (fun k => rfl) ?_
          refine zg_eq rfl rfl (fun x y k => rfl) (by first | assumption | exact hA _ _ | exact hB _ _ | exact hC _ _ | exact zrg_max (by assumption) (hA _ _) | (constructor <;> omega)) (by first | assumption | exact hA _ _ | exact hB _ _ | exact hC _ _ | exact zrg_max (by assumption) (hA _ _) | (constructor <;> omega)) (fun hc => ?_) (fun hc => ?_)
          ·
            refine xg_step rfl rfl (fun k => rfl) ?_
            refine xg_step rfl rfl (fun k => rfl) ?_
            refine zg_rem rfl (by omega) ?_
            refine xg_step rfl rfl (fun k => rfl) ?_
            refine zg_eq rfl rfl (fun x y k => rfl) (by first | assumption | exact hA _ _ | exact hB _ _ | exact hC _ _ | exact zrg_max (by assumption) (hA _ _) | (constructor <;> omega)) (by first | assumption | exact hA _ _ | exact hB _ _ | exact hC _ _ | exact zrg_max (by assumption) (hA _ _) | (constructor <;> omega)) (fun hc => ?_) (fun hc => ?_)
            ·
              refine xg_step rfl rfl (fun k => rfl) ?_
              refine xg_step rfl rfl (fun k => rfl) ?_
              refine xg_step rfl rfl (fun k => rfl) ?_
              refine xg_step rfl rfl (fun k => rfl) ?_
              refine zg_eq0 rfl rfl (fun x k => rfl) (by first | assumption | exact hA _ _ | exact hB _ _ | exact hC _ _ | exact zrg_max (by assumption) (hA _ _) | (constructor <;> omega)) (fun hc => ?_) (fun hc => ?_)
              ·
                refine xg_step rfl rfl (fun k => rfl) ?_
                refine xg_step rfl rfl (fun k => rfl) ?_
                refine xg_step rfl rfl (fun k => rfl) ?_
                refine xg_step rfl rfl (fun k => rfl) ?_
                refine xg_step rfl rfl (fun k => rfl) ?_
                refine zg_inc rfl rfl rfl rfl ?_
                refine xg_step rfl rfl (fun k => rfl) ?_
                exact zql_115 hB hC hs hu he hl hL (by omega) (by omega) (by omega) (zxh1 (by omega) (by first | exact .inl (zxt hh (by assumption)) | exact .inr (decide_eq_true (by omega)))) hr
              ·
                refine xg_step rfl rfl (fun k => rfl) ?_
                refine xg_step rfl rfl (fun k => rfl) ?_
                refine xg_step rfl rfl (fun k => rfl) ?_
                refine zg_inc rfl rfl rfl rfl ?_
                refine xg_step rfl rfl (fun k => rfl) ?_
                exact zql_115 hB hC hs hu he hl hL (by omega) (by omega) (by omega) (zxh1 (by omega) (by first | exact .inl (zxt hh (by assumption)) | exact .inr (decide_eq_true (by omega)))) hr
            ·
              refine xg_step rfl rfl (fun k => rfl) ?_
              refine xg_step rfl rfl (fun k => rfl) ?_
              refine xg_step rfl rfl (fun k => rfl) ?_
              refine xg_step rfl rfl (fun k => rfl) ?_
              refine zg_eq0 rfl rfl (fun x k => rfl) (by first | assumption | exact hA _ _ | exact hB _ _ | exact hC _ _ | exact zrg_max (by assumption) (hA _ _) | (constructor <;> omega)) (fun hc => ?_) (fun hc => ?_)
              ·
                refine xg_step rfl rfl (fun k => rfl) ?_
                refine xg_step rfl rfl (fun k => rfl) ?_
                refine xg_step rfl rfl (fun k => rfl) ?_
                refine xg_step rfl rfl (fun k => rfl) ?_
                refine zg_inc rfl rfl rfl rfl ?_
                refine xg_step rfl rfl (fun k => rfl) ?_
                exact zql_115 hB hC hs hu he hl hL (by omega) (by omega) (by omega) (zxh0 (by omega) (zxf hh (by assumption)) (decide_eq_false (by omega))) hr
              ·
                refine xg_step rfl rfl (fun k => rfl) ?_
                refine xg_step rfl rfl (fun k => rfl) ?_
                refine xg_step rfl rfl (fun k => rfl) ?_
                refine zg_inc rfl rfl rfl rfl ?_
                refine xg_step rfl rfl (fun k => rfl) ?_
                exact zql_115 hB hC hs hu he hl hL (by omega) (by omega) (by omega) (zxh1 (by omega) (by first | exact .inl (zxt hh (by assumption)) | exact .inr (decide_eq_true (by omega)))) hr
          ·
            refine xg_step rfl rfl (fun k => rfl) ?_
            refine xg_step rfl rfl (fun k => rfl) ?_
            refine xg_step rfl rfl (fun k => rfl) ?_
            refine xg_step rfl rfl (fun k => rfl) ?_
            refine zg_eq0 rfl rfl (fun x k => rfl) (by first | assumption | exact hA _ _ | exact hB _ _ | exact hC _ _ | exact zrg_max (by assumption) (hA _ _) | (constructor <;> omega)) (fun hc => ?_) (fun hc => ?_)
            ·
              refine xg_step rfl rfl (fun k => rfl) ?_
              refine xg_step rfl rfl (fun k => rfl) ?_
              refine xg_step rfl rfl (fun k => rfl) ?_
              refine xg_step rfl rfl (fun k => rfl) ?_
              refine zg_inc rfl rfl rfl rfl ?_
              refine xg_step rfl rfl (fun k => rfl) ?_
              exact zql_115 hB hC hs hu he hl hL (by omega) (by omega) (by omega) (zxh0 (by omega) (zxf hh (by assumption)) (decide_eq_false (by omega))) hr
            ·
              refine xg_step rfl rfl (fun k => rfl) ?_
              refine xg_step rfl rfl (fun k => rfl) ?_
              refine xg_step rfl rfl (fun k => rfl) ?_
              refine zg_inc rfl rfl rfl rfl ?_
              refine xg_step rfl rfl (fun k => rfl) ?_
              exact zql_115 hB hC hs hu he hl hL (by omega) (by omega) (by omega) (zxh1 (by omega) (by first | exact .inl (zxt hh (by assumption)) | exact .inr (decide_eq_true (by omega)))) hr
        ·
          refine xg_step rfl rfl (fun k => rfl) ?_
          refine xg_get rfl rfl (zha (by decide)) zc_RefM rfl rfl ?_
          refine xg_step rfl rfl (fun k => rfl) ?_
          refine zg_ald (.inl ⟨rfl, rfl⟩) (zha (by decide)) zc_r_kinds (by decide) ⟨by omega, by omega⟩ (zvB (zk_kinds (by omega) (by omega)) (by omega)) ?_
          refine xg_step rfl rfl (fun k => rfl) ?_
          refine zg_eq rfl rfl (fun x y k => rfl) (by first | assumption | exact hA _ _ | exact hB _ _ | exact hC _ _ | exact zrg_max (by assumption) (hA _ _) | (constructor <;> omega)) (by first | assumption | exact hA _ _ | exact hB _ _ | exact hC _ _ | exact zrg_max (by assumption) (hA _ _) | (constructor <;> omega)) (fun hc => ?_) (fun hc => ?_)
          ·
            refine xg_step rfl rfl (fun k => rfl) ?_
            refine xg_step rfl rfl (fun k => rfl) ?_
            refine xg_step rfl rfl (fun k => rfl) ?_
            refine zg_eq0 rfl rfl (fun x k => rfl) (by first | assumption | exact hA _ _ | exact hB _ _ | exact hC _ _ | exact zrg_max (by assumption) (hA _ _) | (constructor <;> omega)) (fun hc => ?_) (fun hc => ?_)
            ·
              refine xg_step rfl rfl (fun k => rfl) ?_
              refine xg_step rfl rfl (fun k => rfl) ?_
              refine xg_step rfl rfl (fun k => rfl) ?_
              refine xg_step rfl rfl (fun k => rfl) ?_
              refine zg_inc rfl rfl rfl rfl ?_
              refine xg_step rfl rfl (fun k => rfl) ?_
              exact zql_115 hB hC hs hu he hl hL (by omega) (by omega) (by omega) (zxh0 (by omega) (zxf hh (by assumption)) (decide_eq_false (by omega))) hr
            ·
              refine xg_step rfl rfl (fun k => rfl) ?_
              refine xg_step rfl rfl (fun k => rfl) ?_
              refine xg_step rfl rfl (fun k => rfl) ?_
              refine zg_inc rfl rfl rfl rfl ?_
              refine xg_step rfl rfl (fun k => rfl) ?_
              exact zql_115 hB hC hs hu he hl hL (by omega) (by omega) (by omega) (zxh1 (by omega) (by first | exact .inl (zxt hh (by assumption)) | exact .inr (decide_eq_true (by omega)))) hr
          ·
            refine xg_step rfl rfl (fun k => rfl) ?_
            refine xg_step rfl rfl (fun k => rfl) ?_
            refine xg_step rfl rfl (fun k => rfl) ?_
            refine zg_cvb rfl rfl rfl (Nat.le_of_ble_eq_true rfl) (zha (by decide)) zc_RefM rfl rfl (zq_114 hB hC hL (by omega) (by omega)) (fun hc => ?_) (fun hc => ?_)
            ·
              refine xg_step rfl rfl (fun k => rfl) ?_
              refine xg_step rfl rfl (fun k => rfl) ?_
              refine xg_step rfl rfl (fun k => rfl) ?_
              refine xg_step rfl rfl (fun k => rfl) ?_
              refine zg_eq0 rfl rfl (fun x k => rfl) (by first | assumption | exact hA _ _ | exact hB _ _ | exact hC _ _ | exact zrg_max (by assumption) (hA _ _) | (constructor <;> omega)) (fun hc => ?_) (fun hc => ?_)
              ·
                refine xg_step rfl rfl (fun k => rfl) ?_
                refine xg_step rfl rfl (fun k => rfl) ?_
                refine xg_step rfl rfl (fun k => rfl) ?_
                refine xg_step rfl rfl (fun k => rfl) ?_
                refine zg_inc rfl rfl rfl rfl ?_
                refine xg_step rfl rfl (fun k => rfl) ?_
                exact zql_115 hB hC hs hu he hl hL (by omega) (by omega) (by omega) (zxh0 (by omega) (zxf hh (by assumption)) (decide_eq_false (by omega))) hr
              ·
                refine xg_step rfl rfl (fun k => rfl) ?_
                refine xg_step rfl rfl (fun k => rfl) ?_
                refine xg_step rfl rfl (fun k => rfl) ?_
                refine zg_inc rfl rfl rfl rfl ?_
                refine xg_step rfl rfl (fun k => rfl) ?_
                exact zql_115 hB hC hs hu he hl hL (by omega) (by omega) (by omega) (zxh1 (by omega) (by first | exact .inl (zxt hh (by assumption)) | exact .inr (decide_eq_true (by omega)))) hr
            ·
              refine xg_step rfl rfl (fun k => rfl) ?_
              refine xg_step rfl rfl (fun k => rfl) ?_
              refine xg_step rfl rfl (fun k => rfl) ?_
              refine xg_step rfl rfl (fun k => rfl) ?_
              refine xg_step rfl rfl (fun k => rfl) ?_
              refine zg_eq0 rfl rfl (fun x k => rfl) (by first | assumption | exact hA _ _ | exact hB _ _ | exact hC _ _ | exact zrg_max (by assumption) (hA _ _) | (constructor <;> omega)) (fun hc => ?_) (fun hc => ?_)
              ·
                refine xg_step rfl rfl (fun k => rfl) ?_
                refine xg_step rfl rfl (fun k => rfl) ?_
                refine xg_step rfl rfl (fun k => rfl) ?_
                refine xg_step rfl rfl (fun k => rfl) ?_
                refine xg_step rfl rfl (fun k => rfl) ?_
                refine zg_inc rfl rfl rfl rfl ?_
                refine xg_step rfl rfl (fun k => rfl) ?_
                exact zql_115 hB hC hs hu he hl hL (by omega) (by omega) (by omega) (zxh1 (by omega) (by first | exact .inl (zxt hh (by assumption)) | exact .inr (decide_eq_true (by omega)))) hr
              ·
                refine xg_step rfl rfl (fun k => rfl) ?_
                refine xg_step rfl rfl (fun k => rfl) ?_
                refine xg_step rfl rfl (fun k => rfl) ?_
                refine zg_inc rfl rfl rfl rfl ?_
                refine xg_step rfl rfl (fun k => rfl) ?_
                exact zql_115 hB hC hs hu he hl hL (by omega) (by omega) (by omega) (zxh1 (by omega) (by first | exact .inl (zxt hh (by assumption)) | exact .inr (decide_eq_true (by omega)))) hr
      ·
        refine xg_step rfl rfl (fun k => rfl) ?_
        refine zg_inc rfl rfl rfl rfl ?_
        refine xg_step rfl rfl (fun k => rfl) ?_
        exact zql_115 hB hC hs hu he hl hL (by omega) (by omega) (by omega) (zxhk (by omega) hh (decide_eq_false (by omega))) hr
  ·
    refine xg_step rfl rfl (fun k => rfl) ?_
    refine zg_iret rfl rfl (zfitZ (by omega)) ?_
    (rw [hr, hh, show i - 1 = l by omega])
termination_by (l + 1 - i).toNat
decreasing_by all_goals omega
set_option maxRecDepth 10000 in
theorem zq_115 {d : Nat} {A B C : ZM} (hB : zRg B) (hC : zRg C) {s u e : Int} (hs : 0 ≤ s ∧ s < 3) (hu : 0 ≤ u ∧ u < 31) (he : 1 ≤ e ∧ e < 1000) (hL : zLI B C) : XR (d + 9) 115 [.ref 107, zci (s), zci (u), zci (e)] (zhp A (zmg B C)) (some (zci (zb2 (zex (zHO B s u) (min (e - 1) (B (44 + 2 * s) 1)) = true))), zhp A (zmg B C)) := by
  have hcs := hL.1 s hs
  refine XR.of (Nat.le_of_ble_eq_true rfl) rfl ?_
  refine xg_step rfl rfl (fun k => rfl) ?_
  refine xg_step rfl rfl (fun k => rfl) ?_
  refine xg_step rfl rfl (fun k => rfl) ?_
  refine xg_step rfl rfl (fun k => rfl) ?_
  exact zql_115 hB hC hs hu he rfl hL (by omega) (by omega) (by omega) (by rw [zb2_f (by rw [zex_0 (by omega)]; decide)]) rfl
set_option maxRecDepth 10000 in
theorem zql_116 {d : Nat} {A B C : ZM} (hB : zRg B) (hC : zRg C) {s u n e l : Int} (hn : zrg n) (hs : 0 ≤ s ∧ s < 3) (hu : 0 ≤ u ∧ u < 31) (he : 1 ≤ e ∧ e < 1000) (hl : l = min (e - 1) (B (44 + 2 * s) 1)) (hL : zLI B C) {h i : Int} (h01 : h = 0 ∨ h = 1) (hi : 1 ≤ i) (hil : i ≤ l + 1) (hh : h = zb2 (zex (zTel B s u n) (i - 1) = true)) {r : Option Value × XS} (hr : r = (some (zci (zb2 (zex (zTel B s u n) l = true))), zhp A (zmg B C))) : XG (d + 8) 116 6 [some (.ref 107), some (zci (s)), some (zci (u)), some (zci (n)), some (zci (e)), some (zci (h)), some (zci (i))] [] (zhp A (zmg B C)) r := by
  have hcs := hL.1 s hs
  have hou : 0 ≤ B 10 u ∧ B 10 u ≤ 100 := zop_rg hL hu
  refine xg_step rfl rfl (fun k => rfl) ?_
  refine xg_step rfl rfl (fun k => rfl) ?_
  refine zg_lt rfl rfl (fun x y k => rfl) (by first | assumption | exact hA _ _ | exact hB _ _ | exact hC _ _ | exact zrg_max (by assumption) (hA _ _) | (constructor <;> omega)) (by first | assumption | exact hA _ _ | exact hB _ _ | exact hC _ _ | exact zrg_max (by assumption) (hA _ _) | (constructor <;> omega)) (fun hc => ?_) (fun hc => ?_)
  ·
    refine xg_step rfl rfl (fun k => rfl) ?_
    refine xg_step rfl rfl (fun k => rfl) ?_
    refine xg_get rfl rfl (zha (by decide)) zc_RefM rfl rfl ?_
    refine xg_step rfl rfl (fun k => rfl) ?_
    refine zg_ald (.inl ⟨rfl, rfl⟩) (zha (by decide)) zc_r_many (by decide) ⟨by omega, by omega⟩ (zvB (zk_many (by omega)) (by omega)) ?_
    refine zg_gt rfl rfl (fun x y k => rfl) (by first | assumption | exact hA _ _ | exact hB _ _ | exact hC _ _ | exact zrg_max (by assumption) (hA _ _) | (constructor <;> omega)) (by first | assumption | exact hA _ _ | exact hB _ _ | exact hC _ _ | exact zrg_max (by assumption) (hA _ _) | (constructor <;> omega)) (fun hc => ?_) (fun hc => ?_)
    ·
      refine xg_step rfl rfl (fun k => rfl) ?_
      refine zg_iret rfl rfl (zfitZ (by omega)) ?_
      (rw [hr, hh, show i - 1 = l by omega])
    ·
      refine xg_step rfl rfl (fun k => rfl) ?_
      refine zg_eq0 rfl rfl (fun x k => rfl) (by first | assumption | exact hA _ _ | exact hB _ _ | exact hC _ _ | exact zrg_max (by assumption) (hA _ _) | (constructor <;> omega)) (fun hc => ?_) (fun hc => ?_)
      ·
        refine xg_step rfl rfl (fun k => rfl) ?_
        refine xg_get rfl rfl (zha (by decide)) zc_RefM rfl rfl ?_
        refine xg_step rfl rfl (fun k => rfl) ?_
        refine xg_step rfl rfl (fun k => rfl) ?_
        refine zg_csi rfl rfl (by decide) rfl rfl (Nat.le_of_ble_eq_true rfl) rfl (zq_106 hB hC) ?_
        refine zg_ald (.inl ⟨rfl, rfl⟩) (zha (by decide)) zc_r_kinds (by decide) ⟨by omega, by omega⟩ (zvB (zk_kinds (by omega) (by omega)) (by omega)) ?_
        refine xg_step rfl rfl (fun k => rfl) ?_
        refine zg_eq rfl rfl (fun x y k => rfl) (by first | assumption | exact hA _ _ | exact hB _ _ | exact hC _ _ | exact zrg_max (by assumption) (hA _ _) | (constructor <;> omega)) (by first | assumption | exact hA _ _ | exact hB _ _ | exact hC _ _ | exact zrg_max (by assumption) (hA _ _) | (constructor <;> omega)) (fun hc => ?_) (fun hc => ?_)
        ·
          refine xg_step rfl rfl (fun k => rfl) ?_
          refine xg_get rfl rfl (zha (by decide)) zc_RefM rfl rfl ?_
          refine xg_step rfl rfl (fun k => rfl) ?_
          refine xg_step rfl rfl (fun k => rfl) ?_
          refine zg_csi rfl rfl (by decide) rfl rfl (Nat.le_of_ble_eq_true rfl) rfl (zq_106 hB hC) ?_
          refine zg_ald (.inl ⟨rfl, rfl⟩) (zha (by decide)) zc_r_views (by decide) ⟨by omega, by omega⟩ (zvB (zk_views (by omega) (by omega)) (by omega)) ?_
          refine xg_step rfl rfl (fun k => rfl) ?_
          refine zg_eq rfl rfl (fun x y k => rfl) (by first | assumption | exact hA _ _ | exact hB _ _ | exact hC _ _ | exact zrg_max (by assumption) (hA _ _) | (constructor <;> omega)) (by first | assumption | exact hA _ _ | exact hB _ _ | exact hC _ _ | exact zrg_max (by assumption) (hA _ _) | (constructor <;> omega)) (fun hc => ?_) (fun hc => ?_)
          ·
            refine xg_step rfl rfl (fun k => rfl) ?_
            refine xg_get rfl rfl (zha (by decide)) zc_RefM rfl rfl ?_
            refine xg_step rfl rfl (fun k => rfl) ?_
            refine xg_step rfl rfl (fun k => rfl) ?_
            refine zg_csi rfl rfl (by decide) rfl rfl (Nat.le_of_ble_eq_true rfl) rfl (zq_106 hB hC) ?_
            refine zg_ald (.inl ⟨rfl, rfl⟩) (zha (by decide)) zc_r_as (by decide) ⟨by omega, by omega⟩ (zvB (zk_as (by omega) (by omega)) (by omega)) ?_
            refine xg_step rfl rfl (fun k => rfl) ?_
            refine zg_eq rfl rfl (fun x y k => rfl) (by first | assumption | exact hA _ _ | exact hB _ _ | exact hC _ _ | exact zrg_max (by assumption) (hA _ _) | (constructor <;> omega)) (by first | assumption | exact hA _ _ | exact hB _ _ | exact hC _ _ | exact zrg_max (by assumption) (hA _ _) | (constructor <;> omega)) (fun hc => ?_) (fun hc => ?_)
            ·
              refine xg_step rfl rfl (fun k => rfl) ?_
              refine xg_step rfl rfl (fun k => rfl) ?_
              refine xg_step rfl rfl (fun k => rfl) ?_
              refine zg_cvb rfl rfl rfl (Nat.le_of_ble_eq_true rfl) (zha (by decide)) zc_RefM rfl rfl (zq_114 hB hC hL (by omega) (by omega)) (fun hc => ?_) (fun hc => ?_)
              ·
                refine xg_step rfl rfl (fun k => rfl) ?_
                refine xg_step rfl rfl (fun k => rfl) ?_
                refine xg_step rfl rfl (fun k => rfl) ?_
                refine zg_inc rfl rfl rfl rfl ?_
                refine xg_step rfl rfl (fun k => rfl) ?_
                exact zql_116 hB hC hn hs hu he hl hL (by omega) (by omega) (by omega) (zxh0 (by omega) (zxf hh (by assumption)) (decide_eq_false (by omega))) hr
              ·
                refine xg_step rfl rfl (fun k => rfl) ?_
                refine xg_step rfl rfl (fun k => rfl) ?_
                refine xg_step rfl rfl (fun k => rfl) ?_
                refine xg_step rfl rfl (fun k => rfl) ?_
                refine zg_inc rfl rfl rfl rfl ?_
                refine xg_step rfl rfl (fun k => rfl) ?_
                exact zql_116 hB hC hn hs hu he hl hL (by omega) (by omega) (by omega) (zxh1 (by omega) (by first | exact .inl (zxt hh (by assumption)) | exact .inr (decide_eq_true (by omega)))) hr
            ·
              refine xg_step rfl rfl (fun k => rfl) ?_
              refine xg_step rfl rfl (fun k => rfl) ?_
              refine zg_inc rfl rfl rfl rfl ?_
              refine xg_step rfl rfl (fun k => rfl) ?_
              exact zql_116 hB hC hn hs hu he hl hL (by omega) (by omega) (by omega) (zxh0 (by omega) (zxf hh (by assumption)) (decide_eq_false (by omega))) hr
          ·
            refine xg_step rfl rfl (fun k => rfl) ?_
            refine xg_step rfl rfl (fun k => rfl) ?_
            refine zg_inc rfl rfl rfl rfl ?_
            refine xg_step rfl rfl (fun k => rfl) ?_
            exact zql_116 hB hC hn hs hu he hl hL (by omega) (by omega) (by omega) (zxh0 (by omega) (zxf hh (by assumption)) (decide_eq_false (by omega))) hr
        ·
          refine xg_step rfl rfl (fun k => rfl) ?_
          refine xg_step rfl rfl (fun k => rfl) ?_
          refine zg_inc rfl rfl rfl rfl ?_
          refine xg_step rfl rfl (fun k => rfl) ?_
          exact zql_116 hB hC hn hs hu he hl hL (by omega) (by omega) (by omega) (zxh0 (by omega) (zxf hh (by assumption)) (decide_eq_false (by omega))) hr
      ·
        refine xg_step rfl rfl (fun k => rfl) ?_
        refine xg_step rfl rfl (fun k => rfl) ?_
        refine xg_step rfl rfl (fun k => rfl) ?_
        refine zg_inc rfl rfl rfl rfl ?_
        refine xg_step rfl rfl (fun k => rfl) ?_
        exact zql_116 hB hC hn hs hu he hl hL (by omega) (by omega) (by omega) (zxh1 (by omega) (by first | exact .inl (zxt hh (by assumption)) | exact .inr (decide_eq_true (by omega)))) hr
  ·
    refine xg_step rfl rfl (fun k => rfl) ?_
    refine zg_iret rfl rfl (zfitZ (by omega)) ?_
    (rw [hr, hh, show i - 1 = l by omega])
termination_by (l + 1 - i).toNat
decreasing_by all_goals omega
set_option maxRecDepth 10000 in
theorem zq_116 {d : Nat} {A B C : ZM} (hB : zRg B) (hC : zRg C) {s u n e : Int} (hs : 0 ≤ s ∧ s < 3) (hu : 0 ≤ u ∧ u < 31) (hn : zrg n) (he : 1 ≤ e ∧ e < 1000) (hL : zLI B C) : XR (d + 9) 116 [.ref 107, zci (s), zci (u), zci (n), zci (e)] (zhp A (zmg B C)) (some (zci (zb2 (zex (zTel B s u n) (min (e - 1) (B (44 + 2 * s) 1)) = true))), zhp A (zmg B C)) := by
  have hcs := hL.1 s hs
  refine XR.of (Nat.le_of_ble_eq_true rfl) rfl ?_
  refine xg_step rfl rfl (fun k => rfl) ?_
  refine xg_step rfl rfl (fun k => rfl) ?_
  refine xg_step rfl rfl (fun k => rfl) ?_
  refine xg_step rfl rfl (fun k => rfl) ?_
  exact zql_116 hB hC hn hs hu he rfl hL (by omega) (by omega) (by omega) (by rw [zb2_f (by rw [zex_0 (by omega)]; decide)]) rfl
/-- the OPENING of a view that has one: what it tells -/
abbrev zoa (B : ZM) (w : Int) : Int := B (45 + 2 * (w % 3)) (B 10 w * 5 + 2)
abbrev zob (B : ZM) (w : Int) : Int := B (45 + 2 * (w % 3)) (B 10 w * 5 + 3)
theorem zop_ok {B C : ZM} (hL : zLI B C) {w : Int} (hw : 1 ≤ w ∧ w < 31) (ho : 1 ≤ B 10 w) : B 10 w ≤ B (44 + 2 * (w % 3)) 1 ∧ (0 ≤ zoa B w ∧ zoa B w < 1000) ∧ (0 ≤ zob B w ∧ zob B w < 1000) ∧ zoa B w % 3 ≠ zob B w % 3 ∧ zIC B C (zoa B w) w (C 119 (101 * (w % 3) + B 10 w)) ∧ zIC B C (zob B w) w (C 119 (101 * (w % 3) + B 10 w)) := by
  obtain ⟨h1, h2, h3⟩ := hL.2.2.2 w hw
  obtain ⟨e1, e2, e3⟩ := h3 ho
  obtain ⟨⟨m0, m1, m2, m3⟩, q3, -⟩ := hL.2.1 (w % 3) (B 10 w) (by omega) (by omega)
  have q := q3 e1
  have hn : ¬ zVN B C (w % 3) (B 10 w) := fun q' => (q.mpr q') e3
  simp only [zVN, e2, not_or, Classical.not_not] at hn
  exact ⟨h1.2, m2, m3, hn.2.2.1, hn.2.2.2.1, hn.2.2.2.2.1⟩
def zbfr (P : Int → Bool) : Nat → Int
  | 0 => 0
  | n + 1 => if P ((n : Int) + 1) = true then (n : Int) + 1 else zbfr P n
def zbfi (P : Int → Bool) (u : Int) : Int := zbfr P u.toNat
theorem zbfi_S {P : Int → Bool} {u : Int} (h : 1 ≤ u) : zbfi P u = if P u = true then u else zbfi P (u + (-1)) := by
  unfold zbfi
  obtain ⟨n, rfl⟩ : ∃ n : Nat, u = (n : Int) + 1 := ⟨(u - 1).toNat, by omega⟩
  rw [show ((n : Int) + 1).toNat = n + 1 by omega, show ((n : Int) + 1 + -1).toNat = n by omega]
  rfl
theorem zbfi_N {P : Int → Bool} {u : Int} (h : u ≤ 0) : zbfi P u = 0 := by
  unfold zbfi
  rw [show u.toNat = 0 by omega]
  rfl
theorem zbfi_rg {P : Int → Bool} {u : Int} (h : 0 ≤ u) : 0 ≤ zbfi P u ∧ zbfi P u ≤ u := by
  unfold zbfi
  generalize hn : u.toNat = n
  induction n generalizing u with
  | zero => exact ⟨by simp [zbfr], by simp [zbfr]; omega⟩
  | succ n ih =>
    unfold zbfr
    split
    · omega
    · have := ih (u := n) (by omega) (by omega); omega
/-- a view is told of ahead of what an OPENING tells -/
def zHb (B : ZM) (w : Int) (u : Int) : Bool := zex (zHO B (zoa B w % 3) u) (min (zoa B w / 3 - 1) (B (44 + 2 * (zoa B w % 3)) 1)) || zex (zHO B (zob B w % 3) u) (min (zob B w / 3 - 1) (B (44 + 2 * (zob B w % 3)) 1))
def zBF (B : ZM) (w : Int) : Int := zbfi (zHb B w) (w - 1)
set_option maxRecDepth 10000 in
theorem zql_117 {d : Nat} {A B C : ZM} (hB : zRg B) (hC : zRg C) (hL : zLI B C) {w u : Int} (hw : 1 ≤ w ∧ w < 31) (ho : 1 ≤ B 10 w) (hu : 0 ≤ u ∧ u < w) {r : Option Value × XS} (hr : r = (some (zci (zbfi (zHb B w) u)), zhp A (zmg B C))) : XG (d + 10) 117 16 [some (.ref 107), some (zci (w)), some (zci (101 * (w % 3) + B 10 w)), some (zci (u))] [] (zhp A (zmg B C)) r := by
  obtain ⟨o1, o2, o3, o4, o5, o6⟩ := zop_ok hL hw ho
  simp only [zoa, zob] at o2 o3 o4 o5 o6
  have hcw := hL.1 (w % 3) (by omega)
  refine xg_step rfl rfl (fun k => rfl) ?_
  refine zg_gt0 rfl rfl (fun x k => rfl) (by first | assumption | exact hA _ _ | exact hB _ _ | exact hC _ _ | exact zrg_max (by assumption) (hA _ _) | (constructor <;> omega)) (fun hc => ?_) (fun hc => ?_)
  ·
    refine xg_step rfl rfl (fun k => rfl) ?_
    refine xg_step rfl rfl (fun k => rfl) ?_
    refine xg_get rfl rfl (zha (by decide)) zc_RefM rfl rfl ?_
    refine xg_step rfl rfl (fun k => rfl) ?_
    refine zg_ald (.inl ⟨rfl, rfl⟩) (zha (by decide)) zc_r_as (by decide) ⟨by omega, by omega⟩ (zvB (zk_as (by omega) (by omega)) (by omega)) ?_
    refine xg_step rfl rfl (fun k => rfl) ?_
    refine zg_rem rfl (by omega) ?_
    refine xg_step rfl rfl (fun k => rfl) ?_
    refine xg_step rfl rfl (fun k => rfl) ?_
    refine xg_get rfl rfl (zha (by decide)) zc_RefM rfl rfl ?_
    refine xg_step rfl rfl (fun k => rfl) ?_
    refine zg_ald (.inl ⟨rfl, rfl⟩) (zha (by decide)) zc_r_as (by decide) ⟨by omega, by omega⟩ (zvB (zk_as (by omega) (by omega)) (by omega)) ?_
    refine xg_step rfl rfl (fun k => rfl) ?_
    refine zg_div rfl (by omega) ?_
    refine zg_cvb rfl rfl rfl (Nat.le_of_ble_eq_true rfl) (zha (by decide)) zc_RefM rfl rfl (zq_115 hB hC (by omega) (by omega) (by omega) hL) (fun hc => ?_) (fun hc => ?_)
    ·
      refine xg_step rfl rfl (fun k => rfl) ?_
      refine xg_step rfl rfl (fun k => rfl) ?_
      refine zg_iret rfl rfl zfitI ?_
      (rw [hr, zbfi_S (by omega), if_pos (by simp only [zHb, Bool.or_eq_true]; first | exact .inl (by assumption) | exact .inr (by assumption))])
    ·
      refine xg_step rfl rfl (fun k => rfl) ?_
      refine xg_step rfl rfl (fun k => rfl) ?_
      refine xg_step rfl rfl (fun k => rfl) ?_
      refine xg_get rfl rfl (zha (by decide)) zc_RefM rfl rfl ?_
      refine xg_step rfl rfl (fun k => rfl) ?_
      refine zg_ald (.inl ⟨rfl, rfl⟩) (zha (by decide)) zc_r_bs (by decide) ⟨by omega, by omega⟩ (zvB (zk_bs (by omega) (by omega)) (by omega)) ?_
      refine xg_step rfl rfl (fun k => rfl) ?_
      refine zg_rem rfl (by omega) ?_
      refine xg_step rfl rfl (fun k => rfl) ?_
      refine xg_step rfl rfl (fun k => rfl) ?_
      refine xg_get rfl rfl (zha (by decide)) zc_RefM rfl rfl ?_
      refine xg_step rfl rfl (fun k => rfl) ?_
      refine zg_ald (.inl ⟨rfl, rfl⟩) (zha (by decide)) zc_r_bs (by decide) ⟨by omega, by omega⟩ (zvB (zk_bs (by omega) (by omega)) (by omega)) ?_
      refine xg_step rfl rfl (fun k => rfl) ?_
      refine zg_div rfl (by omega) ?_
      refine zg_cvb rfl rfl rfl (Nat.le_of_ble_eq_true rfl) (zha (by decide)) zc_RefM rfl rfl (zq_115 hB hC (by omega) (by omega) (by omega) hL) (fun hc => ?_) (fun hc => ?_)
      ·
        refine xg_step rfl rfl (fun k => rfl) ?_
        refine xg_step rfl rfl (fun k => rfl) ?_
        refine zg_iret rfl rfl zfitI ?_
        (rw [hr, zbfi_S (by omega), if_pos (by simp only [zHb, Bool.or_eq_true]; first | exact .inl (by assumption) | exact .inr (by assumption))])
      ·
        refine xg_step rfl rfl (fun k => rfl) ?_
        refine zg_inc rfl rfl rfl rfl ?_
        refine xg_step rfl rfl (fun k => rfl) ?_
        exact zql_117 hB hC hL hw ho (by omega) (hr.trans (by rw [zbfi_S (by omega), if_neg (by simp only [zHb, Bool.or_eq_true, not_or]; exact ⟨by assumption, by assumption⟩)]))
  ·
    refine xg_step rfl rfl (fun k => rfl) ?_
    refine zg_iret rfl rfl zfitI ?_
    (rw [hr, zbfi_N (by omega)])
termination_by u.toNat
decreasing_by all_goals omega
set_option maxRecDepth 10000 in
theorem zq_117 {d : Nat} {A B C : ZM} (hB : zRg B) (hC : zRg C) (hL : zLI B C) {w : Int} (hw : 1 ≤ w ∧ w < 31) (ho : 1 ≤ B 10 w) : XR (d + 11) 117 [.ref 107, zci (w)] (zhp A (zmg B C)) (some (zci (zBF B w)), zhp A (zmg B C)) := by
  obtain ⟨o1, o2, o3, o4, o5, o6⟩ := zop_ok hL hw ho
  simp only [zoa, zob] at o2 o3 o4 o5 o6
  have hcw := hL.1 (w % 3) (by omega)
  refine XR.of (Nat.le_of_ble_eq_true rfl) rfl ?_
  refine xg_step rfl rfl (fun k => rfl) ?_
  refine xg_step rfl rfl (fun k => rfl) ?_
  refine zg_rem rfl (by omega) ?_
  refine xg_step rfl rfl (fun k => rfl) ?_
  refine xg_step rfl rfl (fun k => rfl) ?_
  refine zg_cvi rfl rfl rfl (Nat.le_of_ble_eq_true rfl) (zha (by decide)) zc_RefM rfl rfl (zq_111 hB hC hL (by omega)) ?_
  refine zg_csi rfl rfl (by decide) rfl rfl (Nat.le_of_ble_eq_true rfl) rfl (zq_106 hB hC) ?_
  refine xg_step rfl rfl (fun k => rfl) ?_
  refine xg_step rfl rfl (fun k => rfl) ?_
  refine xg_step rfl rfl (fun k => rfl) ?_
  refine zg_sub rfl ?_
  refine xg_step rfl rfl (fun k => rfl) ?_
  exact zql_117 hB hC hL hw ho (by omega) rfl
