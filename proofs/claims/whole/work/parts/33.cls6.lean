/-! the server -/
def zturn (A : ZM) (t w on : Int) : ZM := zbeg (zup (zup A (56 + 17 * t) 7 w) (56 + 17 * t) 8 on) t
abbrev zWt (A : ZM) (t p k : Int) : Prop := ¬ (A (45 + 2 * p) (k * 5 + 0) = 2 ∨ A (45 + 2 * p) (k * 5 + 0) = 3) ∧ A (45 + 2 * p) (k * 5 + 4) = 0 ∧ (A (56 + 17 * t) 7 < A (45 + 2 * p) (k * 5 + 1) ∨ (A (45 + 2 * p) (k * 5 + 1) = A (56 + 17 * t) 7 ∧ A (56 + 17 * t) 8 = 0))
abbrev zRd (A : ZM) (t p : Int) : Prop := p ≠ t ∧ (A (59 + 17 * t) p < 101 ∧ ¬ A (58 + 17 * t) (p * 101 + A (59 + 17 * t) p) = 0) ∧ ¬ zWt A t p (A (59 + 17 * t) p)
def zNSf (A : ZM) (t : Int) : Nat → Int → Int
  | 0, _ => -1
  | n + 1, p => if zRd A t p then p else zNSf A t n (p + 1)
def zNSg (A : ZM) (t p : Int) : Int := zNSf A t (3 - p).toNat p
theorem zNSg_S {A : ZM} {t p : Int} (h : p < 3) : zNSg A t p = if zRd A t p then p else zNSg A t (p + 1) := by
  unfold zNSg
  rw [show (3 - p).toNat = (3 - (p + 1)).toNat + 1 by omega]
  rfl
theorem zNSg_N {A : ZM} {t p : Int} (h : 3 ≤ p) : zNSg A t p = -1 := by
  unfold zNSg
  rw [show (3 - p).toNat = 0 by omega]
  rfl
def zNS (A : ZM) (t : Int) : Int := if A (59 + 17 * t) t ≤ A (44 + 2 * t) 1 then t else zNSg A t 0
set_option maxRecDepth 10000 in
theorem zr_59 {d : Nat} {A B : ZM} {s : Int} (hs : 0 ≤ s ∧ s < 3) (hA : zRg A) {w o : Int} (hw : zrg w) (ho : o = 0 ∨ o = 1) : XR (d + 3) 59 [.ref (56 + 17 * s.toNat), zci (w), zci (o)] (zhp A B) (none, zhp (zturn A s w o) B) := by
  have ho2 : zrg o := ⟨by omega, by omega⟩
  refine XR.of (Nat.le_of_ble_eq_true rfl) rfl ?_
  refine xg_step rfl rfl (fun k => rfl) ?_
  refine xg_step rfl rfl (fun k => rfl) ?_
  refine zg_put rfl rfl (zha (by omega)) (zc_Server hs) (Nat.le_of_ble_eq_true rfl) rfl zfitI rfl (zhwA (by omega) (zw_Server_7 hs)) ?_
  refine xg_step rfl rfl (fun k => rfl) ?_
  refine xg_step rfl rfl (fun k => rfl) ?_
  refine zg_put rfl rfl (zha (by omega)) (zc_Server hs) (Nat.le_of_ble_eq_true rfl) rfl (zfitZ (by omega)) rfl (zhwA (by omega) (zw_Server_8 hs)) ?_
  refine xg_step rfl rfl (fun k => rfl) ?_
  refine xg_get rfl rfl (zha (by omega)) (zc_Server hs) rfl rfl ?_
  refine zg_cvv rfl rfl rfl (Nat.le_of_ble_eq_true rfl) (zha (by omega)) (zc_Term hs) rfl rfl (zr_70 hs (zRg_up (zRg_up hA (by first | assumption | exact hA _ _ | exact hB _ _ | exact zrg_max (by assumption) (hA _ _) | (constructor <;> omega))) (by first | assumption | exact hA _ _ | exact hB _ _ | exact zrg_max (by assumption) (hA _ _) | (constructor <;> omega)))) ?_
  refine zg_ret rfl rfl ?_
  rfl
set_option maxRecDepth 10000 in
theorem zr_57 {d : Nat} {A B : ZM} {s : Int} (hs : 0 ≤ s ∧ s < 3) (hA : zRg A) {p k : Int} (hp : 0 ≤ p ∧ p < 3) (hcp : 0 ≤ A (44 + 2 * p) 1 ∧ A (44 + 2 * p) 1 ≤ 100) (hk : 1 ≤ k ∧ k ≤ A (44 + 2 * p) 1) : XR (d + 4) 57 [.ref (56 + 17 * s.toNat), zci (p), zci (k)] (zhp A B) (some (zci (zb2 (zWt A s p k))), zhp A B) := by
  refine XR.of (Nat.le_of_ble_eq_true rfl) rfl ?_
  refine xg_step rfl rfl (fun k => rfl) ?_
  refine xg_get rfl rfl (zha (by omega)) (zc_Server hs) rfl rfl ?_
  refine xg_step rfl rfl (fun k => rfl) ?_
  refine xg_step rfl rfl (fun k => rfl) ?_
  refine xg_step rfl rfl (fun k => rfl) ?_
  refine zg_cvi rfl rfl rfl (Nat.le_of_ble_eq_true rfl) (zha (by decide)) zc_Book rfl rfl (zreq (x := A (45 + 2 * p) (k * 5 + 0)) (zr_7 hA hp (by first | assumption | exact hA _ _ | exact hB _ _ | exact zrg_max (by assumption) (hA _ _) | (constructor <;> omega)) (by first | assumption | exact hA _ _ | exact hB _ _ | exact zrg_max (by assumption) (hA _ _) | (constructor <;> omega)) hcp) (by rw [if_pos (by omega)])) ?_
  refine xg_step rfl rfl (fun k => rfl) ?_
  refine xg_step rfl rfl (fun k => rfl) ?_
  refine xg_step rfl rfl (fun k => rfl) ?_
  refine zg_eq rfl rfl (fun x y k => rfl) (by first | assumption | exact hA _ _ | exact hB _ _ | exact zrg_max (by assumption) (hA _ _) | (constructor <;> omega)) (by first | assumption | exact hA _ _ | exact hB _ _ | exact zrg_max (by assumption) (hA _ _) | (constructor <;> omega)) (fun hc => ?_) (fun hc => ?_)
  ·
    refine xg_step rfl rfl (fun k => rfl) ?_
    refine zg_iret rfl rfl (zfitZ (by omega)) ?_
    exact zl0 (by simp only [zWt]; omega)
  ·
    refine xg_step rfl rfl (fun k => rfl) ?_
    refine xg_step rfl rfl (fun k => rfl) ?_
    refine zg_eq rfl rfl (fun x y k => rfl) (by first | assumption | exact hA _ _ | exact hB _ _ | exact zrg_max (by assumption) (hA _ _) | (constructor <;> omega)) (by first | assumption | exact hA _ _ | exact hB _ _ | exact zrg_max (by assumption) (hA _ _) | (constructor <;> omega)) (fun hc => ?_) (fun hc => ?_)
    ·
      refine xg_step rfl rfl (fun k => rfl) ?_
      refine zg_iret rfl rfl (zfitZ (by omega)) ?_
      exact zl0 (by simp only [zWt]; omega)
    ·
      refine xg_step rfl rfl (fun k => rfl) ?_
      refine xg_get rfl rfl (zha (by omega)) (zc_Server hs) rfl rfl ?_
      refine xg_step rfl rfl (fun k => rfl) ?_
      refine xg_step rfl rfl (fun k => rfl) ?_
      refine xg_step rfl rfl (fun k => rfl) ?_
      refine zg_cvi rfl rfl rfl (Nat.le_of_ble_eq_true rfl) (zha (by decide)) zc_Book rfl rfl (zreq (x := A (45 + 2 * p) (k * 5 + 4)) (zr_7 hA hp (by first | assumption | exact hA _ _ | exact hB _ _ | exact zrg_max (by assumption) (hA _ _) | (constructor <;> omega)) (by first | assumption | exact hA _ _ | exact hB _ _ | exact zrg_max (by assumption) (hA _ _) | (constructor <;> omega)) hcp) (by rw [if_pos (by omega)])) ?_
      refine zg_eq0 rfl rfl (fun x k => rfl) (by first | assumption | exact hA _ _ | exact hB _ _ | exact zrg_max (by assumption) (hA _ _) | (constructor <;> omega)) (fun hc => ?_) (fun hc => ?_)
      ·
        refine xg_step rfl rfl (fun k => rfl) ?_
        refine xg_get rfl rfl (zha (by omega)) (zc_Server hs) rfl rfl ?_
        refine xg_step rfl rfl (fun k => rfl) ?_
        refine xg_step rfl rfl (fun k => rfl) ?_
        refine xg_step rfl rfl (fun k => rfl) ?_
        refine zg_cvi rfl rfl rfl (Nat.le_of_ble_eq_true rfl) (zha (by decide)) zc_Book rfl rfl (zreq (x := A (45 + 2 * p) (k * 5 + 1)) (zr_7 hA hp (by first | assumption | exact hA _ _ | exact hB _ _ | exact zrg_max (by assumption) (hA _ _) | (constructor <;> omega)) (by first | assumption | exact hA _ _ | exact hB _ _ | exact zrg_max (by assumption) (hA _ _) | (constructor <;> omega)) hcp) (by rw [if_pos (by omega)])) ?_
        refine xg_step rfl rfl (fun k => rfl) ?_
        refine xg_step rfl rfl (fun k => rfl) ?_
        refine xg_step rfl rfl (fun k => rfl) ?_
        refine xg_get rfl rfl (zha (by omega)) (zc_Server hs) rfl rfl ?_
        refine zg_gt rfl rfl (fun x y k => rfl) (by first | assumption | exact hA _ _ | exact hB _ _ | exact zrg_max (by assumption) (hA _ _) | (constructor <;> omega)) (by first | assumption | exact hA _ _ | exact hB _ _ | exact zrg_max (by assumption) (hA _ _) | (constructor <;> omega)) (fun hc => ?_) (fun hc => ?_)
        ·
          refine xg_step rfl rfl (fun k => rfl) ?_
          refine xg_step rfl rfl (fun k => rfl) ?_
          refine zg_iret rfl rfl (zfitZ (by omega)) ?_
          exact zl1 (by simp only [zWt]; omega)
        ·
          refine xg_step rfl rfl (fun k => rfl) ?_
          refine xg_step rfl rfl (fun k => rfl) ?_
          refine xg_get rfl rfl (zha (by omega)) (zc_Server hs) rfl rfl ?_
          refine zg_eq rfl rfl (fun x y k => rfl) (by first | assumption | exact hA _ _ | exact hB _ _ | exact zrg_max (by assumption) (hA _ _) | (constructor <;> omega)) (by first | assumption | exact hA _ _ | exact hB _ _ | exact zrg_max (by assumption) (hA _ _) | (constructor <;> omega)) (fun hc => ?_) (fun hc => ?_)
          ·
            refine xg_step rfl rfl (fun k => rfl) ?_
            refine xg_get rfl rfl (zha (by omega)) (zc_Server hs) rfl rfl ?_
            refine zg_eq0 rfl rfl (fun x k => rfl) (by first | assumption | exact hA _ _ | exact hB _ _ | exact zrg_max (by assumption) (hA _ _) | (constructor <;> omega)) (fun hc => ?_) (fun hc => ?_)
            ·
              refine xg_step rfl rfl (fun k => rfl) ?_
              refine xg_step rfl rfl (fun k => rfl) ?_
              refine zg_iret rfl rfl (zfitZ (by omega)) ?_
              exact zl1 (by simp only [zWt]; omega)
            ·
              refine xg_step rfl rfl (fun k => rfl) ?_
              refine zg_iret rfl rfl (zfitZ (by omega)) ?_
              exact zl0 (by simp only [zWt]; omega)
          ·
            refine xg_step rfl rfl (fun k => rfl) ?_
            refine zg_iret rfl rfl (zfitZ (by omega)) ?_
            exact zl0 (by simp only [zWt]; omega)
      ·
        refine xg_step rfl rfl (fun k => rfl) ?_
        refine zg_iret rfl rfl (zfitZ (by omega)) ?_
        exact zl0 (by simp only [zWt]; omega)
set_option maxRecDepth 10000 in
theorem zl_56 {d : Nat} {A B : ZM} {s : Int} (hs : 0 ≤ s ∧ s < 3) (hA : zRg A) (hcN : ∀ s, 0 ≤ s ∧ s < 3 → 0 ≤ A (44 + 2 * s) 1 ∧ A (44 + 2 * s) 1 ≤ 100) (hid : A (56 + 17 * s) 0 = s) (hnx : ∀ p, 0 ≤ p ∧ p < 3 → 1 ≤ A (59 + 17 * s) p ∧ A (59 + 17 * s) p ≤ 101) (hbr : ∀ p k, 0 ≤ p ∧ p < 3 → 0 ≤ k ∧ k < 101 → ¬ A (58 + 17 * s) (p * 101 + k) = 0 → 1 ≤ k ∧ k ≤ A (44 + 2 * p) 1) (k : Int) (hk : 0 ≤ k ∧ k ≤ 3) {r : Option Value × XS} (hr : r = (some (zci (zNSg A s k)), zhp A B)) : XG (d + 4) 56 32 [some (.ref (56 + 17 * s.toNat)), some (zci (k))] [] (zhp A B) r := by
  have hnk : k < 3 → 1 ≤ A (59 + 17 * s) k ∧ A (59 + 17 * s) k ≤ 101 := fun q => hnx k (by omega)
  refine xg_step rfl rfl (fun k => rfl) ?_
  refine xg_step rfl rfl (fun k => rfl) ?_
  refine zg_lt rfl rfl (fun x y k => rfl) (by first | assumption | exact hA _ _ | exact hB _ _ | exact zrg_max (by assumption) (hA _ _) | (constructor <;> omega)) (by first | assumption | exact hA _ _ | exact hB _ _ | exact zrg_max (by assumption) (hA _ _) | (constructor <;> omega)) (fun hc => ?_) (fun hc => ?_)
  ·
    refine xg_step rfl rfl (fun k => rfl) ?_
    refine xg_step rfl rfl (fun k => rfl) ?_
    refine zg_geti (x := s) rfl rfl (zha (by omega)) (zc_Server hs) rfl hid ?_
    refine zg_eq rfl rfl (fun x y k => rfl) (by first | assumption | exact hA _ _ | exact hB _ _ | exact zrg_max (by assumption) (hA _ _) | (constructor <;> omega)) (by first | assumption | exact hA _ _ | exact hB _ _ | exact zrg_max (by assumption) (hA _ _) | (constructor <;> omega)) (fun hc => ?_) (fun hc => ?_)
    ·
      refine zg_inc rfl rfl rfl rfl ?_
      refine xg_step rfl rfl (fun k => rfl) ?_
      exact zl_56 hs hA hcN hid hnx hbr (k + 1) (by omega) (by rw [hr, zNSg_S (by omega), if_neg (fun q => by obtain ⟨q1, q2, q3⟩ := q; first | exact q3 (by assumption) | omega)])
    ·
      refine xg_step rfl rfl (fun k => rfl) ?_
      refine xg_get rfl rfl (zha (by omega)) (zc_Server hs) rfl rfl ?_
      refine xg_step rfl rfl (fun k => rfl) ?_
      refine zg_cvb rfl rfl rfl (Nat.le_of_ble_eq_true rfl) (zha (by omega)) (zc_Inbox hs) rfl rfl (zr_30 hs hA (by omega) (by omega)) (fun hc => ?_) (fun hc => ?_)
      ·
        refine xg_step rfl rfl (fun k => rfl) ?_
        refine xg_step rfl rfl (fun k => rfl) ?_
        refine xg_step rfl rfl (fun k => rfl) ?_
        refine xg_step rfl rfl (fun k => rfl) ?_
        refine xg_get rfl rfl (zha (by omega)) (zc_Server hs) rfl rfl ?_
        refine xg_step rfl rfl (fun k => rfl) ?_
        refine zg_cvi rfl rfl rfl (Nat.le_of_ble_eq_true rfl) (zha (by omega)) (zc_Inbox hs) rfl rfl (zr_31 hs hA (by omega)) ?_
        refine zg_cvb rfl rfl rfl (Nat.le_of_ble_eq_true rfl) (zha (by omega)) (zc_Server hs) rfl rfl (zr_57 hs hA (by omega) (hcN _ (by omega)) (hbr _ _ (by omega) (by omega) (by omega))) (fun hc => ?_) (fun hc => ?_)
        ·
          refine xg_step rfl rfl (fun k => rfl) ?_
          refine zg_inc rfl rfl rfl rfl ?_
          refine xg_step rfl rfl (fun k => rfl) ?_
          exact zl_56 hs hA hcN hid hnx hbr (k + 1) (by omega) (by rw [hr, zNSg_S (by omega), if_neg (fun q => by obtain ⟨q1, q2, q3⟩ := q; first | exact q3 (by assumption) | omega)])
        ·
          refine xg_step rfl rfl (fun k => rfl) ?_
          refine xg_step rfl rfl (fun k => rfl) ?_
          refine zg_iret rfl rfl zfitI ?_
          first | rw [hr, zNSg_N (by omega)] | rw [hr, zNSg_S (by omega), if_pos ⟨by omega, by omega, by assumption⟩]
      ·
        refine xg_step rfl rfl (fun k => rfl) ?_
        refine zg_inc rfl rfl rfl rfl ?_
        refine xg_step rfl rfl (fun k => rfl) ?_
        exact zl_56 hs hA hcN hid hnx hbr (k + 1) (by omega) (by rw [hr, zNSg_S (by omega), if_neg (fun q => by obtain ⟨q1, q2, q3⟩ := q; first | exact q3 (by assumption) | omega)])
  ·
    refine xg_step rfl rfl (fun k => rfl) ?_
    refine zg_iret rfl rfl zfitI ?_
    first | rw [hr, zNSg_N (by omega)] | rw [hr, zNSg_S (by omega), if_pos ⟨by omega, by omega, by assumption⟩]
termination_by (3 - k).toNat
decreasing_by all_goals omega
set_option maxRecDepth 10000 in
theorem zr_56 {d : Nat} {A B : ZM} {s : Int} (hs : 0 ≤ s ∧ s < 3) (hA : zRg A) (hcN : ∀ s, 0 ≤ s ∧ s < 3 → 0 ≤ A (44 + 2 * s) 1 ∧ A (44 + 2 * s) 1 ≤ 100) (hid : A (56 + 17 * s) 0 = s) (hnx : ∀ p, 0 ≤ p ∧ p < 3 → 1 ≤ A (59 + 17 * s) p ∧ A (59 + 17 * s) p ≤ 101) (hbr : ∀ p k, 0 ≤ p ∧ p < 3 → 0 ≤ k ∧ k < 101 → ¬ A (58 + 17 * s) (p * 101 + k) = 0 → 1 ≤ k ∧ k ≤ A (44 + 2 * p) 1) : XR (d + 5) 56 [.ref (56 + 17 * s.toNat)] (zhp A B) (some (zci (zNS A s)), zhp A B) := by
  refine XR.of (Nat.le_of_ble_eq_true rfl) rfl ?_
  refine xg_step rfl rfl (fun k => rfl) ?_
  refine xg_get rfl rfl (zha (by omega)) (zc_Server hs) rfl rfl ?_
  refine xg_step rfl rfl (fun k => rfl) ?_
  refine zg_geti (x := s) rfl rfl (zha (by omega)) (zc_Server hs) rfl hid ?_
  refine zg_cvi rfl rfl rfl (Nat.le_of_ble_eq_true rfl) (zha (by omega)) (zc_Inbox hs) rfl rfl (zr_31 hs hA hs) ?_
  refine xg_step rfl rfl (fun k => rfl) ?_
  refine xg_get rfl rfl (zha (by omega)) (zc_Server hs) rfl rfl ?_
  refine xg_step rfl rfl (fun k => rfl) ?_
  refine zg_geti (x := s) rfl rfl (zha (by omega)) (zc_Server hs) rfl hid ?_
  refine zg_cvi rfl rfl rfl (Nat.le_of_ble_eq_true rfl) (zha (by decide)) zc_Book rfl rfl (zr_6 hA (by omega)) ?_
  refine zg_gt rfl rfl (fun x y k => rfl) (by first | assumption | exact hA _ _ | exact hB _ _ | exact zrg_max (by assumption) (hA _ _) | (constructor <;> omega)) (by first | assumption | exact hA _ _ | exact hB _ _ | exact zrg_max (by assumption) (hA _ _) | (constructor <;> omega)) (fun hc => ?_) (fun hc => ?_)
  ·
    refine xg_step rfl rfl (fun k => rfl) ?_
    refine xg_step rfl rfl (fun k => rfl) ?_
    exact zl_56 hs hA hcN hid hnx hbr 0 (by omega) (by unfold zNS; rw [if_neg (by omega)])
  ·
    refine xg_step rfl rfl (fun k => rfl) ?_
    refine zg_geti (x := s) rfl rfl (zha (by omega)) (zc_Server hs) rfl hid ?_
    refine zg_iret rfl rfl zfitI ?_
    unfold zNS; rw [if_pos (by omega)]
