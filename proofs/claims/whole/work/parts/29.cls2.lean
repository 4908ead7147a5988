/-! the class's loops -/
def zany (p : Int → Bool) : Nat → Bool
  | 0 => false
  | n + 1 => zany p n || p ((n : Int) + 1)
def zex (p : Int → Bool) (n : Int) : Bool := zany p n.toNat
theorem zex_0 {p : Int → Bool} {n : Int} (h : n ≤ 0) : zex p n = false := by
  unfold zex
  rw [show n.toNat = 0 by omega]
  rfl
theorem zex_S {p : Int → Bool} {k : Int} (h : 1 ≤ k) : zex p k = (zex p (k - 1) || p k) := by
  unfold zex
  obtain ⟨n, rfl⟩ : ∃ n : Nat, k = (n : Int) + 1 := ⟨(k - 1).toNat, by omega⟩
  rw [show ((n : Int) + 1).toNat = n + 1 by omega, show ((n : Int) + 1 - 1).toNat = n by omega]
  rfl
theorem zex_iff {p : Int → Bool} {n : Int} : zex p n = true ↔ ∃ k, 1 ≤ k ∧ k ≤ n ∧ p k = true := by
  unfold zex
  generalize hm : n.toNat = m
  induction m generalizing n with
  | zero => exact ⟨fun h => absurd h Bool.false_ne_true, fun ⟨k, q1, q2, _⟩ => by omega⟩
  | succ m ih =>
    show (zany p m || p ((m : Int) + 1)) = true ↔ _
    rw [Bool.or_eq_true, ih (n := (m : Int)) (by omega)]
    constructor
    · rintro (⟨k, q1, q2, q3⟩ | q)
      · exact ⟨k, q1, by omega, q3⟩
      · exact ⟨(m : Int) + 1, by omega, by omega, q⟩
    · rintro ⟨k, q1, q2, q3⟩
      by_cases hk : k = (m : Int) + 1
      · subst hk; exact .inr q3
      · exact .inl ⟨k, q1, by omega, q3⟩
theorem zex_t {p : Int → Bool} {n : Int} (k : Int) (h1 : 1 ≤ k) (h2 : k ≤ n) (h : p k = true) : zex p n = true := zex_iff.mpr ⟨k, h1, h2, h⟩
theorem zex_f {p : Int → Bool} {k : Int} (h1 : 1 ≤ k) (h : zex p (k - 1) = false) (h2 : p k = false) : zex p (k + 1 - 1) = false := by
  rw [show k + 1 - 1 = k by omega, zex_S h1, h, h2]
  rfl
theorem zex_n {p : Int → Bool} {n k : Int} (h : zex p (k - 1) = false) (h2 : n = k - 1) : ¬ zex p n = true := by
  rw [h2, h]
  decide
/-- a server has a PREPARE of a view that tells a request -/
def zHP (A : ZM) (s v r : Int) (k : Int) : Bool := decide (A (45 + 2 * s) (k * 5 + 0) = 0 ∧ A (45 + 2 * s) (k * 5 + 1) = v ∧ A (45 + 2 * s) (k * 5 + 2) = r)
set_option maxRecDepth 10000 in
theorem zl_23 {d : Nat} {A B : ZM} {s : Int} (hs : 0 ≤ s ∧ s < 3) (hA : zRg A) {v r : Int} (hv : zrg v) (hr : zrg r) (hcn : 0 ≤ A (44 + 2 * s) 1 ∧ A (44 + 2 * s) 1 ≤ 100) (k : Int) (hk : 1 ≤ k ∧ k ≤ A (44 + 2 * s) 1 + 1) (hn : zex (zHP A s v r) (k - 1) = false) : XG (d + 1) 23 2 [some (.ref (44 + 2 * s.toNat)), some (zci (v)), some (zci (r)), some (zci (k))] [] (zhp A B) (some (zci (zb2 (zex (zHP A s v r) (A (44 + 2 * s) 1) = true))), zhp A B) := by
  refine xg_step rfl rfl (fun k => rfl) ?_
  refine xg_step rfl rfl (fun k => rfl) ?_
  refine xg_get rfl rfl (zha (by omega)) (zc_Counter hs) rfl rfl ?_
  refine zg_gt rfl rfl (fun x y k => rfl) (by first | assumption | exact hA _ _ | exact hB _ _ | exact zrg_max (by assumption) (hA _ _) | (constructor <;> omega)) (by first | assumption | exact hA _ _ | exact hB _ _ | exact zrg_max (by assumption) (hA _ _) | (constructor <;> omega)) (fun hc => ?_) (fun hc => ?_)
  ·
    refine xg_step rfl rfl (fun k => rfl) ?_
    refine zg_iret rfl rfl (zfitZ (by omega)) ?_
    exact zl0 (zex_n hn (by omega))
  ·
    refine xg_step rfl rfl (fun k => rfl) ?_
    refine xg_step rfl rfl (fun k => rfl) ?_
    refine xg_step rfl rfl (fun k => rfl) ?_
    refine xg_step rfl rfl (fun k => rfl) ?_
    refine zg_cvb rfl rfl rfl (Nat.le_of_ble_eq_true rfl) (zha (by omega)) (zc_Counter hs) rfl rfl (zr_21 hs hA (by first | assumption | exact hA _ _ | exact hB _ _ | exact zrg_max (by assumption) (hA _ _) | (constructor <;> omega)) (by first | assumption | exact hA _ _ | exact hB _ _ | exact zrg_max (by assumption) (hA _ _) | (constructor <;> omega)) (by first | assumption | exact hA _ _ | exact hB _ _ | exact zrg_max (by assumption) (hA _ _) | (constructor <;> omega)) (by omega)) (fun hc => ?_) (fun hc => ?_)
    ·
      refine xg_step rfl rfl (fun k => rfl) ?_
      refine xg_step rfl rfl (fun k => rfl) ?_
      refine xg_get rfl rfl (zha (by omega)) (zc_Counter hs) rfl rfl ?_
      refine xg_step rfl rfl (fun k => rfl) ?_
      refine xg_step rfl rfl (fun k => rfl) ?_
      refine zg_mul rfl ?_
      refine xg_step rfl rfl (fun k => rfl) ?_
      refine zg_add rfl ?_
      refine zg_ald (.inl ⟨rfl, rfl⟩) (zha (by omega)) (zc_cells hs) (by decide) ⟨by omega, by omega⟩ rfl ?_
      refine xg_step rfl rfl (fun k => rfl) ?_
      refine zg_eq rfl rfl (fun x y k => rfl) (by first | assumption | exact hA _ _ | exact hB _ _ | exact zrg_max (by assumption) (hA _ _) | (constructor <;> omega)) (by first | assumption | exact hA _ _ | exact hB _ _ | exact zrg_max (by assumption) (hA _ _) | (constructor <;> omega)) (fun hc => ?_) (fun hc => ?_)
      ·
        refine xg_step rfl rfl (fun k => rfl) ?_
        refine zg_iret rfl rfl (zfitZ (by omega)) ?_
        exact zl1 (zex_t k (by omega) (by omega) (decide_eq_true (by omega)))
      ·
        refine zg_inc rfl rfl rfl rfl ?_
        refine xg_step rfl rfl (fun k => rfl) ?_
        exact zl_23 hs hA hv hr hcn (k + 1) (by omega) (zex_f hk.1 hn (decide_eq_false (by omega)))
    ·
      refine xg_step rfl rfl (fun k => rfl) ?_
      refine zg_inc rfl rfl rfl rfl ?_
      refine xg_step rfl rfl (fun k => rfl) ?_
      exact zl_23 hs hA hv hr hcn (k + 1) (by omega) (zex_f hk.1 hn (decide_eq_false (by omega)))
termination_by (A (44 + 2 * s) 1 + 1 - k).toNat
decreasing_by all_goals omega
set_option maxRecDepth 10000 in
theorem zr_23 {d : Nat} {A B : ZM} {s : Int} (hs : 0 ≤ s ∧ s < 3) (hA : zRg A) {v r : Int} (hv : zrg v) (hr : zrg r) (hcn : 0 ≤ A (44 + 2 * s) 1 ∧ A (44 + 2 * s) 1 ≤ 100) : XR (d + 2) 23 [.ref (44 + 2 * s.toNat), zci (v), zci (r)] (zhp A B) (some (zci (zb2 (zex (zHP A s v r) (A (44 + 2 * s) 1) = true))), zhp A B) := by
  refine XR.of (Nat.le_of_ble_eq_true rfl) rfl ?_
  refine xg_step rfl rfl (fun k => rfl) ?_
  refine xg_step rfl rfl (fun k => rfl) ?_
  exact zl_23 hs hA hv hr hcn 1 (by omega) (zex_0 (by omega))
theorem zfi_r {f : Int → Int → Int} {k l g g' : Int} {σ : XS} (h : k ≤ l) (e : f k g = g') : ((some (zci (zfi f k l g)), σ) : Option Value × XS) = (some (zci (zfi f (k + 1) l g')), σ) := by rw [zfi_s h e]
theorem zfi_m {f : Int → ZM → ZM} {k l : Int} {M M' B : ZM} {v : Option Value} (h : k ≤ l) (e : f k M = M') : ((v, zhp (zfi f k l M) B) : Option Value × XS) = (v, zhp (zfi f (k + 1) l M') B) := by rw [zfi_s h e]
/-- the greatest view below v that messages of s are bound to -/
def zlvf (A : ZM) (s v k g : Int) : Int := if A (45 + 2 * s) (k * 5 + 1) < v ∧ A (45 + 2 * s) (k * 5 + 0) ≠ 2 ∧ A (45 + 2 * s) (k * 5 + 4) = 0 then max g (A (45 + 2 * s) (k * 5 + 1)) else g
set_option maxRecDepth 10000 in
theorem zl_25 {d : Nat} {A B : ZM} {s : Int} (hs : 0 ≤ s ∧ s < 3) (hA : zRg A) {v e l g : Int} {o5 : Option Value} (hv : zrg v) (he : zrg e) (hcn : 0 ≤ A (44 + 2 * s) 1 ∧ A (44 + 2 * s) 1 ≤ 100) (hl : l = min (A (44 + 2 * s) 1) (e - 1)) (hg : zrg g) (k : Int) (hk : 1 ≤ k ∧ k ≤ A (44 + 2 * s) 1 + 1) {r : Option Value × XS} (hr : r = (some (zci (zfi (zlvf A s v) k l g)), zhp A B)) : XG (d + 1) 25 5 [some (.ref (44 + 2 * s.toNat)), some (zci (v)), some (zci (e)), some (zci (g)), some (zci (k)), o5] [] (zhp A B) r := by
  refine xg_step rfl rfl (fun k => rfl) ?_
  refine xg_step rfl rfl (fun k => rfl) ?_
  refine xg_get rfl rfl (zha (by omega)) (zc_Counter hs) rfl rfl ?_
  refine zg_gt rfl rfl (fun x y k => rfl) (by first | assumption | exact hA _ _ | exact hB _ _ | exact zrg_max (by assumption) (hA _ _) | (constructor <;> omega)) (by first | assumption | exact hA _ _ | exact hB _ _ | exact zrg_max (by assumption) (hA _ _) | (constructor <;> omega)) (fun hc => ?_) (fun hc => ?_)
  ·
    refine xg_step rfl rfl (fun k => rfl) ?_
    refine zg_iret rfl rfl zfitI ?_
    rw [hr, zfi_N (by omega)]
  ·
    refine xg_step rfl rfl (fun k => rfl) ?_
    refine xg_step rfl rfl (fun k => rfl) ?_
    refine zg_lt rfl rfl (fun x y k => rfl) (by first | assumption | exact hA _ _ | exact hB _ _ | exact zrg_max (by assumption) (hA _ _) | (constructor <;> omega)) (by first | assumption | exact hA _ _ | exact hB _ _ | exact zrg_max (by assumption) (hA _ _) | (constructor <;> omega)) (fun hc => ?_) (fun hc => ?_)
    ·
      refine xg_step rfl rfl (fun k => rfl) ?_
      refine xg_get rfl rfl (zha (by omega)) (zc_Counter hs) rfl rfl ?_
      refine xg_step rfl rfl (fun k => rfl) ?_
      refine xg_step rfl rfl (fun k => rfl) ?_
      refine zg_mul rfl ?_
      refine xg_step rfl rfl (fun k => rfl) ?_
      refine zg_add rfl ?_
      refine zg_ald (.inl ⟨rfl, rfl⟩) (zha (by omega)) (zc_cells hs) (by decide) ⟨by omega, by omega⟩ rfl ?_
      refine xg_step rfl rfl (fun k => rfl) ?_
      refine xg_step rfl rfl (fun k => rfl) ?_
      refine xg_step rfl rfl (fun k => rfl) ?_
      refine zg_lt rfl rfl (fun x y k => rfl) (by first | assumption | exact hA _ _ | exact hB _ _ | exact zrg_max (by assumption) (hA _ _) | (constructor <;> omega)) (by first | assumption | exact hA _ _ | exact hB _ _ | exact zrg_max (by assumption) (hA _ _) | (constructor <;> omega)) (fun hc => ?_) (fun hc => ?_)
      ·
        refine xg_step rfl rfl (fun k => rfl) ?_
        refine xg_step rfl rfl (fun k => rfl) ?_
        refine zg_cvb rfl rfl rfl (Nat.le_of_ble_eq_true rfl) (zha (by omega)) (zc_Counter hs) rfl rfl (zr_24 hs hA (by first | assumption | exact hA _ _ | exact hB _ _ | exact zrg_max (by assumption) (hA _ _) | (constructor <;> omega)) (by omega)) (fun hc => ?_) (fun hc => ?_)
        ·
          refine xg_step rfl rfl (fun k => rfl) ?_
          refine xg_step rfl rfl (fun k => rfl) ?_
          refine xg_step rfl rfl (fun k => rfl) ?_
          refine zg_max rfl rfl (Nat.le_of_ble_eq_true rfl) (by first | assumption | exact hA _ _ | exact hB _ _ | exact zrg_max (by assumption) (hA _ _) | (constructor <;> omega)) (by first | assumption | exact hA _ _ | exact hB _ _ | exact zrg_max (by assumption) (hA _ _) | (constructor <;> omega)) ?_
          refine xg_step rfl rfl (fun k => rfl) ?_
          refine zg_inc rfl rfl rfl rfl ?_
          refine xg_step rfl rfl (fun k => rfl) ?_
          exact zl_25 hs hA hv he hcn hl (by first | assumption | exact hA _ _ | exact hB _ _ | exact zrg_max (by assumption) (hA _ _) | (constructor <;> omega)) (k + 1) (by omega) (hr.trans (zfi_r (by omega) (by first | exact if_pos (by omega) | exact if_neg (by omega))))
        ·
          refine xg_step rfl rfl (fun k => rfl) ?_
          refine zg_inc rfl rfl rfl rfl ?_
          refine xg_step rfl rfl (fun k => rfl) ?_
          exact zl_25 hs hA hv he hcn hl (by first | assumption | exact hA _ _ | exact hB _ _ | exact zrg_max (by assumption) (hA _ _) | (constructor <;> omega)) (k + 1) (by omega) (hr.trans (zfi_r (by omega) (by first | exact if_pos (by omega) | exact if_neg (by omega))))
      ·
        refine zg_inc rfl rfl rfl rfl ?_
        refine xg_step rfl rfl (fun k => rfl) ?_
        exact zl_25 hs hA hv he hcn hl (by first | assumption | exact hA _ _ | exact hB _ _ | exact zrg_max (by assumption) (hA _ _) | (constructor <;> omega)) (k + 1) (by omega) (hr.trans (zfi_r (by omega) (by first | exact if_pos (by omega) | exact if_neg (by omega))))
    ·
      refine xg_step rfl rfl (fun k => rfl) ?_
      refine zg_iret rfl rfl zfitI ?_
      rw [hr, zfi_N (by omega)]
termination_by (l + 1 - k).toNat
decreasing_by all_goals omega
set_option maxRecDepth 10000 in
theorem zr_25 {d : Nat} {A B : ZM} {s : Int} (hs : 0 ≤ s ∧ s < 3) (hA : zRg A) {v e : Int} (hv : zrg v) (he : zrg e) (hcn : 0 ≤ A (44 + 2 * s) 1 ∧ A (44 + 2 * s) 1 ≤ 100) : XR (d + 2) 25 [.ref (44 + 2 * s.toNat), zci (v), zci (e)] (zhp A B) (some (zci (zfi (zlvf A s v) 1 (min (A (44 + 2 * s) 1) (e - 1)) 0)), zhp A B) := by
  refine XR.of (Nat.le_of_ble_eq_true rfl) rfl ?_
  refine xg_step rfl rfl (fun k => rfl) ?_
  refine xg_step rfl rfl (fun k => rfl) ?_
  refine xg_step rfl rfl (fun k => rfl) ?_
  refine xg_step rfl rfl (fun k => rfl) ?_
  exact zl_25 hs hA hv he hcn rfl (by first | assumption | exact hA _ _ | exact hB _ _ | exact zrg_max (by assumption) (hA _ _) | (constructor <;> omega)) 1 (by omega) rfl
/-- marks what a message is or tells -/
def zmkf (s v k : Int) (A : ZM) : ZM := if A (45 + 2 * s) (k * 5 + 1) = v ∧ A (45 + 2 * s) (k * 5 + 0) ≠ 2 ∧ A (45 + 2 * s) (k * 5 + 4) = 0 then (if A (45 + 2 * s) (k * 5 + 0) = 1 then (if 0 ≤ A (45 + 2 * s) (k * 5 + 2) ∧ A (45 + 2 * s) (k * 5 + 2) < 101 then zup A 43 (A (45 + 2 * s) (k * 5 + 2)) 1 else A) else zup A 43 k 1) else A
set_option maxRecDepth 10000 in
theorem zl_26 {d : Nat} {A B : ZM} {s : Int} (hs : 0 ≤ s ∧ s < 3) (hA : zRg A) {v e l : Int} {o5 : Option Value} (hv : zrg v) (he : zrg e) (hcn : 0 ≤ A (44 + 2 * s) 1 ∧ A (44 + 2 * s) 1 ≤ 100) (hl : l = min (A (44 + 2 * s) 1) (e - 1)) (k : Int) (hk : 1 ≤ k ∧ k ≤ A (44 + 2 * s) 1 + 1) {r : Option Value × XS} (hr : r = (none, zhp (zfi (zmkf s v) k l A) B)) : XG (d + 1) 26 3 [some (.ref (44 + 2 * s.toNat)), some (zci (v)), some (zci (e)), some (.ref 43), some (zci (k)), o5] [] (zhp A B) r := by
  refine xg_step rfl rfl (fun k => rfl) ?_
  refine xg_step rfl rfl (fun k => rfl) ?_
  refine xg_get rfl rfl (zha (by omega)) (zc_Counter hs) rfl rfl ?_
  refine zg_gt rfl rfl (fun x y k => rfl) (by first | assumption | exact hA _ _ | exact hB _ _ | exact zrg_max (by assumption) (hA _ _) | (constructor <;> omega)) (by first | assumption | exact hA _ _ | exact hB _ _ | exact zrg_max (by assumption) (hA _ _) | (constructor <;> omega)) (fun hc => ?_) (fun hc => ?_)
  ·
    refine zg_ret rfl rfl ?_
    rw [hr, zfi_N (by omega)]
  ·
    refine xg_step rfl rfl (fun k => rfl) ?_
    refine xg_step rfl rfl (fun k => rfl) ?_
    refine zg_lt rfl rfl (fun x y k => rfl) (by first | assumption | exact hA _ _ | exact hB _ _ | exact zrg_max (by assumption) (hA _ _) | (constructor <;> omega)) (by first | assumption | exact hA _ _ | exact hB _ _ | exact zrg_max (by assumption) (hA _ _) | (constructor <;> omega)) (fun hc => ?_) (fun hc => ?_)
    ·
      refine xg_step rfl rfl (fun k => rfl) ?_
      refine xg_get rfl rfl (zha (by omega)) (zc_Counter hs) rfl rfl ?_
      refine xg_step rfl rfl (fun k => rfl) ?_
      refine xg_step rfl rfl (fun k => rfl) ?_
      refine zg_mul rfl ?_
      refine xg_step rfl rfl (fun k => rfl) ?_
      refine zg_add rfl ?_
      refine zg_ald (.inl ⟨rfl, rfl⟩) (zha (by omega)) (zc_cells hs) (by decide) ⟨by omega, by omega⟩ rfl ?_
      refine xg_step rfl rfl (fun k => rfl) ?_
      refine zg_eq rfl rfl (fun x y k => rfl) (by first | assumption | exact hA _ _ | exact hB _ _ | exact zrg_max (by assumption) (hA _ _) | (constructor <;> omega)) (by first | assumption | exact hA _ _ | exact hB _ _ | exact zrg_max (by assumption) (hA _ _) | (constructor <;> omega)) (fun hc => ?_) (fun hc => ?_)
      ·
        refine xg_step rfl rfl (fun k => rfl) ?_
        refine xg_step rfl rfl (fun k => rfl) ?_
        refine zg_cvb rfl rfl rfl (Nat.le_of_ble_eq_true rfl) (zha (by omega)) (zc_Counter hs) rfl rfl (zr_24 hs hA (by first | assumption | exact hA _ _ | exact hB _ _ | exact zrg_max (by assumption) (hA _ _) | (constructor <;> omega)) (by omega)) (fun hc => ?_) (fun hc => ?_)
        ·
          refine xg_step rfl rfl (fun k => rfl) ?_
          refine xg_step rfl rfl (fun k => rfl) ?_
          refine xg_get rfl rfl (zha (by omega)) (zc_Counter hs) rfl rfl ?_
          refine xg_step rfl rfl (fun k => rfl) ?_
          refine xg_step rfl rfl (fun k => rfl) ?_
          refine zg_mul rfl ?_
          refine xg_step rfl rfl (fun k => rfl) ?_
          refine zg_add rfl ?_
          refine zg_ald (.inl ⟨rfl, rfl⟩) (zha (by omega)) (zc_cells hs) (by decide) ⟨by omega, by omega⟩ rfl ?_
          refine xg_step rfl rfl (fun k => rfl) ?_
          refine zg_eq rfl rfl (fun x y k => rfl) (by first | assumption | exact hA _ _ | exact hB _ _ | exact zrg_max (by assumption) (hA _ _) | (constructor <;> omega)) (by first | assumption | exact hA _ _ | exact hB _ _ | exact zrg_max (by assumption) (hA _ _) | (constructor <;> omega)) (fun hc => ?_) (fun hc => ?_)
          ·
            refine xg_step rfl rfl (fun k => rfl) ?_
            refine xg_get rfl rfl (zha (by omega)) (zc_Counter hs) rfl rfl ?_
            refine xg_step rfl rfl (fun k => rfl) ?_
            refine xg_step rfl rfl (fun k => rfl) ?_
            refine zg_mul rfl ?_
            refine xg_step rfl rfl (fun k => rfl) ?_
            refine zg_add rfl ?_
            refine zg_ald (.inl ⟨rfl, rfl⟩) (zha (by omega)) (zc_cells hs) (by decide) ⟨by omega, by omega⟩ rfl ?_
            refine xg_step rfl rfl (fun k => rfl) ?_
            refine xg_step rfl rfl (fun k => rfl) ?_
            refine xg_step rfl rfl (fun k => rfl) ?_
            refine zg_lt0 rfl rfl (fun x k => rfl) (by first | assumption | exact hA _ _ | exact hB _ _ | exact zrg_max (by assumption) (hA _ _) | (constructor <;> omega)) (fun hc => ?_) (fun hc => ?_)
            ·
              refine zg_inc rfl rfl rfl rfl ?_
              refine xg_step rfl rfl (fun k => rfl) ?_
              exact zl_26 hs hA hv he hcn hl (k + 1) (by omega) (hr.trans (zfi_m (by omega) (by unfold zmkf; (repeat' split) <;> first | rfl | omega)))
            ·
              refine xg_step rfl rfl (fun k => rfl) ?_
              refine xg_step rfl rfl (fun k => rfl) ?_
              refine zg_len (x := 101) rfl (zha (by decide)) zc_marks rfl ?_
              refine zg_lt rfl rfl (fun x y k => rfl) (by first | assumption | exact hA _ _ | exact hB _ _ | exact zrg_max (by assumption) (hA _ _) | (constructor <;> omega)) (by first | assumption | exact hA _ _ | exact hB _ _ | exact zrg_max (by assumption) (hA _ _) | (constructor <;> omega)) (fun hc => ?_) (fun hc => ?_)
              ·
                refine xg_step rfl rfl (fun k => rfl) ?_
                refine xg_step rfl rfl (fun k => rfl) ?_
                refine xg_step rfl rfl (fun k => rfl) ?_
                refine zg_ast (.inr ⟨rfl, rfl, by omega⟩) (zha (by decide)) zc_marks (by decide) ⟨by omega, by omega⟩ (zhwA (by omega) zw_marks) ?_
                refine zg_inc rfl rfl rfl rfl ?_
                refine xg_step rfl rfl (fun k => rfl) ?_
                exact zl_26 hs (zRg_up hA (by first | assumption | exact hA _ _ | exact hB _ _ | exact zrg_max (by assumption) (hA _ _) | (constructor <;> omega))) hv he (by rw [zup_ne (by omega)]; omega) (by rw [zup_ne (by omega)]; exact hl) (k + 1) (by rw [zup_ne (by omega)]; omega) (hr.trans (zfi_m (by omega) (by unfold zmkf; (repeat' split) <;> first | rfl | omega)))
              ·
                refine zg_inc rfl rfl rfl rfl ?_
                refine xg_step rfl rfl (fun k => rfl) ?_
                exact zl_26 hs hA hv he hcn hl (k + 1) (by omega) (hr.trans (zfi_m (by omega) (by unfold zmkf; (repeat' split) <;> first | rfl | omega)))
          ·
            refine xg_step rfl rfl (fun k => rfl) ?_
            refine xg_step rfl rfl (fun k => rfl) ?_
            refine xg_step rfl rfl (fun k => rfl) ?_
            refine zg_lt0 rfl rfl (fun x k => rfl) (by first | assumption | exact hA _ _ | exact hB _ _ | exact zrg_max (by assumption) (hA _ _) | (constructor <;> omega)) (fun hc => ?_) (fun hc => ?_)
            ·
              refine zg_inc rfl rfl rfl rfl ?_
              refine xg_step rfl rfl (fun k => rfl) ?_
              exact zl_26 hs hA hv he hcn hl (k + 1) (by omega) (hr.trans (zfi_m (by omega) (by unfold zmkf; (repeat' split) <;> first | rfl | omega)))
            ·
              refine xg_step rfl rfl (fun k => rfl) ?_
              refine xg_step rfl rfl (fun k => rfl) ?_
              refine zg_len (x := 101) rfl (zha (by decide)) zc_marks rfl ?_
              refine zg_lt rfl rfl (fun x y k => rfl) (by first | assumption | exact hA _ _ | exact hB _ _ | exact zrg_max (by assumption) (hA _ _) | (constructor <;> omega)) (by first | assumption | exact hA _ _ | exact hB _ _ | exact zrg_max (by assumption) (hA _ _) | (constructor <;> omega)) (fun hc => ?_) (fun hc => ?_)
              ·
                refine xg_step rfl rfl (fun k => rfl) ?_
                refine xg_step rfl rfl (fun k => rfl) ?_
                refine xg_step rfl rfl (fun k => rfl) ?_
                refine zg_ast (.inr ⟨rfl, rfl, by omega⟩) (zha (by decide)) zc_marks (by decide) ⟨by omega, by omega⟩ (zhwA (by omega) zw_marks) ?_
                refine zg_inc rfl rfl rfl rfl ?_
                refine xg_step rfl rfl (fun k => rfl) ?_
                exact zl_26 hs (zRg_up hA (by first | assumption | exact hA _ _ | exact hB _ _ | exact zrg_max (by assumption) (hA _ _) | (constructor <;> omega))) hv he (by rw [zup_ne (by omega)]; omega) (by rw [zup_ne (by omega)]; exact hl) (k + 1) (by rw [zup_ne (by omega)]; omega) (hr.trans (zfi_m (by omega) (by unfold zmkf; (repeat' split) <;> first | rfl | omega)))
              ·
                refine zg_inc rfl rfl rfl rfl ?_
                refine xg_step rfl rfl (fun k => rfl) ?_
                exact zl_26 hs hA hv he hcn hl (k + 1) (by omega) (hr.trans (zfi_m (by omega) (by unfold zmkf; (repeat' split) <;> first | rfl | omega)))
        ·
          refine xg_step rfl rfl (fun k => rfl) ?_
          refine xg_step rfl rfl (fun k => rfl) ?_
          refine zg_inc rfl rfl rfl rfl ?_
          refine xg_step rfl rfl (fun k => rfl) ?_
          exact zl_26 hs hA hv he hcn hl (k + 1) (by omega) (hr.trans (zfi_m (by omega) (by unfold zmkf; (repeat' split) <;> first | rfl | omega)))
      ·
        refine zg_inc rfl rfl rfl rfl ?_
        refine xg_step rfl rfl (fun k => rfl) ?_
        exact zl_26 hs hA hv he hcn hl (k + 1) (by omega) (hr.trans (zfi_m (by omega) (by unfold zmkf; (repeat' split) <;> first | rfl | omega)))
    ·
      refine zg_ret rfl rfl ?_
      rw [hr, zfi_N (by omega)]
termination_by (l + 1 - k).toNat
decreasing_by all_goals omega
set_option maxRecDepth 10000 in
theorem zr_26 {d : Nat} {A B : ZM} {s : Int} (hs : 0 ≤ s ∧ s < 3) (hA : zRg A) {v e : Int} (hv : zrg v) (he : zrg e) (hcn : 0 ≤ A (44 + 2 * s) 1 ∧ A (44 + 2 * s) 1 ≤ 100) : XR (d + 2) 26 [.ref (44 + 2 * s.toNat), zci (v), zci (e), .ref 43] (zhp A B) (none, zhp (zfi (zmkf s v) 1 (min (A (44 + 2 * s) 1) (e - 1)) A) B) := by
  refine XR.of (Nat.le_of_ble_eq_true rfl) rfl ?_
  refine xg_step rfl rfl (fun k => rfl) ?_
  refine xg_step rfl rfl (fun k => rfl) ?_
  exact zl_26 hs hA hv he hcn rfl 1 (by omega) rfl
def zclr (t i : Int) (A : ZM) : ZM := zup A (62 + 17 * t) i 0
def zbeg (A : ZM) (t : Int) : ZM := zfi (zclr t) 0 100 (zup (zup (zup A (60 + 17 * t) 2 0) (60 + 17 * t) 3 0) (60 + 17 * t) 4 0)
set_option maxRecDepth 10000 in
theorem zl_70 {d : Nat} {A B : ZM} {s : Int} (hs : 0 ≤ s ∧ s < 3) (hA : zRg A) (k : Int) (hk : 0 ≤ k ∧ k ≤ 101) {r : Option Value × XS} (hr : r = (none, zhp (zfi (zclr s) k 100 A) B)) : XG (d + 1) 70 17 [some (.ref (60 + 17 * s.toNat)), some (zci (k))] [] (zhp A B) r := by
  refine xg_step rfl rfl (fun k => rfl) ?_
  refine xg_step rfl rfl (fun k => rfl) ?_
  refine xg_get rfl rfl (zha (by omega)) (zc_Term hs) rfl rfl ?_
  refine zg_len (x := 101) rfl (zha (by omega)) (zc_voted hs) rfl ?_
  refine zg_lt rfl rfl (fun x y k => rfl) (by first | assumption | exact hA _ _ | exact hB _ _ | exact zrg_max (by assumption) (hA _ _) | (constructor <;> omega)) (by first | assumption | exact hA _ _ | exact hB _ _ | exact zrg_max (by assumption) (hA _ _) | (constructor <;> omega)) (fun hc => ?_) (fun hc => ?_)
  ·
    refine xg_step rfl rfl (fun k => rfl) ?_
    refine xg_get rfl rfl (zha (by omega)) (zc_Term hs) rfl rfl ?_
    refine xg_step rfl rfl (fun k => rfl) ?_
    refine xg_step rfl rfl (fun k => rfl) ?_
    refine zg_ast (.inr ⟨rfl, rfl, by omega⟩) (zha (by omega)) (zc_voted hs) (by decide) ⟨by omega, by omega⟩ (zhwA (by omega) (zw_voted hs)) ?_
    refine zg_inc rfl rfl rfl rfl ?_
    refine xg_step rfl rfl (fun k => rfl) ?_
    exact zl_70 hs (zRg_up hA (by first | assumption | exact hA _ _ | exact hB _ _ | exact zrg_max (by assumption) (hA _ _) | (constructor <;> omega))) (k + 1) (by omega) (hr.trans (zfi_m (by omega) rfl))
  ·
    refine zg_ret rfl rfl ?_
    rw [hr, zfi_N (by omega)]
termination_by (101 - k).toNat
decreasing_by all_goals omega
set_option maxRecDepth 10000 in
theorem zr_70 {d : Nat} {A B : ZM} {s : Int} (hs : 0 ≤ s ∧ s < 3) (hA : zRg A)  : XR (d + 2) 70 [.ref (60 + 17 * s.toNat)] (zhp A B) (none, zhp (zbeg A s) B) := by
  refine XR.of (Nat.le_of_ble_eq_true rfl) rfl ?_
  refine xg_step rfl rfl (fun k => rfl) ?_
  refine xg_step rfl rfl (fun k => rfl) ?_
  refine zg_put rfl rfl (zha (by omega)) (zc_Term hs) (Nat.le_of_ble_eq_true rfl) rfl zfitI rfl (zhwA (by omega) (zw_Term_2 hs)) ?_
  refine xg_step rfl rfl (fun k => rfl) ?_
  refine xg_step rfl rfl (fun k => rfl) ?_
  refine zg_put rfl rfl (zha (by omega)) (zc_Term hs) (Nat.le_of_ble_eq_true rfl) rfl zfitI rfl (zhwA (by omega) (zw_Term_3 hs)) ?_
  refine xg_step rfl rfl (fun k => rfl) ?_
  refine xg_step rfl rfl (fun k => rfl) ?_
  refine zg_put rfl rfl (zha (by omega)) (zc_Term hs) (Nat.le_of_ble_eq_true rfl) rfl (zfitZ (by omega)) rfl (zhwA (by omega) (zw_Term_4 hs)) ?_
  refine xg_step rfl rfl (fun k => rfl) ?_
  refine xg_step rfl rfl (fun k => rfl) ?_
  exact zl_70 hs (zRg_up (zRg_up (zRg_up hA (by first | assumption | exact hA _ _ | exact hB _ _ | exact zrg_max (by assumption) (hA _ _) | (constructor <;> omega))) (by first | assumption | exact hA _ _ | exact hB _ _ | exact zrg_max (by assumption) (hA _ _) | (constructor <;> omega))) (by first | assumption | exact hA _ _ | exact hB _ _ | exact zrg_max (by assumption) (hA _ _) | (constructor <;> omega))) 0 (by omega) rfl
/-- a message entered -/
def zadd (A : ZM) (s kd v a b o : Int) : ZM :=
  let n := A (44 + 2 * s) 1 + 1
  let A1 := zup (zup (zup (zup (zup (zup A (44 + 2 * s) 1 n) (45 + 2 * s) (n * 5 + 0) kd) (45 + 2 * s) (n * 5 + 1) v) (45 + 2 * s) (n * 5 + 2) a) (45 + 2 * s) (n * 5 + 3) b) (45 + 2 * s) (n * 5 + 4) (if o = 0 then 0 else 1)
  if kd = 2 then zup A1 (44 + 2 * s) 2 (max (A (44 + 2 * s) 2) v) else A1
set_option maxRecDepth 10000 in
theorem zr_22 {d : Nat} {A B : ZM} {s : Int} (hs : 0 ≤ s ∧ s < 3) (hA : zRg A) {kd v a b o : Int} (hkd : zrg kd) (hv : zrg v) (ha : zrg a) (hb : zrg b) (ho : zrg o) (hcn : 0 ≤ A (44 + 2 * s) 1 ∧ A (44 + 2 * s) 1 < 100) : XR (d + 2) 22 [.ref (44 + 2 * s.toNat), zci (kd), zci (v), zci (a), zci (b), zci (o)] (zhp A B) (some (zci (A (44 + 2 * s) 1 + 1)), zhp (zadd A s kd v a b o) B) := by
  refine XR.of (Nat.le_of_ble_eq_true rfl) rfl ?_
  refine xg_step rfl rfl (fun k => rfl) ?_
  refine zg_cvb rfl rfl rfl (Nat.le_of_ble_eq_true rfl) (zha (by omega)) (zc_Counter hs) rfl rfl (zr_18 hs hA) (fun hc => ?_) (fun hc => ?_)
  ·
    refine xg_step rfl rfl (fun k => rfl) ?_
    refine xg_step rfl rfl (fun k => rfl) ?_
    refine zg_iret rfl rfl zfitI ?_
    unfold zadd; dsimp only; (repeat' split) <;> first | rfl | omega
  ·
    refine xg_step rfl rfl (fun k => rfl) ?_
    refine xg_step rfl rfl (fun k => rfl) ?_
    refine xg_step rfl rfl (fun k => rfl) ?_
    refine xg_get rfl rfl (zha (by omega)) (zc_Counter hs) rfl rfl ?_
    refine xg_step rfl rfl (fun k => rfl) ?_
    refine zg_add rfl ?_
    refine zg_put rfl rfl (zha (by omega)) (zc_Counter hs) (Nat.le_of_ble_eq_true rfl) rfl zfitI rfl (zhwA (by omega) (zw_Counter_1 hs)) ?_
    refine xg_step rfl rfl (fun k => rfl) ?_
    refine zg_geti (x := (A (44 + 2 * s) 1) + 1) rfl rfl (zha (by omega)) (zc_Counter hs) rfl (zup_eq ⟨by omega, by omega⟩) ?_
    refine xg_step rfl rfl (fun k => rfl) ?_
    refine zg_mul rfl ?_
    refine xg_step rfl rfl (fun k => rfl) ?_
    refine xg_step rfl rfl (fun k => rfl) ?_
    refine xg_get rfl rfl (zha (by omega)) (zc_Counter hs) rfl rfl ?_
    refine xg_step rfl rfl (fun k => rfl) ?_
    refine xg_step rfl rfl (fun k => rfl) ?_
    refine zg_add rfl ?_
    refine xg_step rfl rfl (fun k => rfl) ?_
    refine zg_ast (.inl ⟨rfl, rfl⟩) (zha (by omega)) (zc_cells hs) (by decide) ⟨by omega, by omega⟩ (zhwA (by omega) (zw_cells hs)) ?_
    refine xg_step rfl rfl (fun k => rfl) ?_
    refine xg_get rfl rfl (zha (by omega)) (zc_Counter hs) rfl rfl ?_
    refine xg_step rfl rfl (fun k => rfl) ?_
    refine xg_step rfl rfl (fun k => rfl) ?_
    refine zg_add rfl ?_
    refine xg_step rfl rfl (fun k => rfl) ?_
    refine zg_ast (.inl ⟨rfl, rfl⟩) (zha (by omega)) (zc_cells hs) (by decide) ⟨by omega, by omega⟩ (zhwA (by omega) (zw_cells hs)) ?_
    refine xg_step rfl rfl (fun k => rfl) ?_
    refine xg_get rfl rfl (zha (by omega)) (zc_Counter hs) rfl rfl ?_
    refine xg_step rfl rfl (fun k => rfl) ?_
    refine xg_step rfl rfl (fun k => rfl) ?_
    refine zg_add rfl ?_
    refine xg_step rfl rfl (fun k => rfl) ?_
    refine zg_ast (.inl ⟨rfl, rfl⟩) (zha (by omega)) (zc_cells hs) (by decide) ⟨by omega, by omega⟩ (zhwA (by omega) (zw_cells hs)) ?_
    refine xg_step rfl rfl (fun k => rfl) ?_
    refine xg_get rfl rfl (zha (by omega)) (zc_Counter hs) rfl rfl ?_
    refine xg_step rfl rfl (fun k => rfl) ?_
    refine xg_step rfl rfl (fun k => rfl) ?_
    refine zg_add rfl ?_
    refine xg_step rfl rfl (fun k => rfl) ?_
    refine zg_ast (.inl ⟨rfl, rfl⟩) (zha (by omega)) (zc_cells hs) (by decide) ⟨by omega, by omega⟩ (zhwA (by omega) (zw_cells hs)) ?_
    refine xg_step rfl rfl (fun k => rfl) ?_
    refine xg_get rfl rfl (zha (by omega)) (zc_Counter hs) rfl rfl ?_
    refine xg_step rfl rfl (fun k => rfl) ?_
    refine xg_step rfl rfl (fun k => rfl) ?_
    refine zg_add rfl ?_
    refine xg_step rfl rfl (fun k => rfl) ?_
    refine zg_eq0 rfl rfl (fun x k => rfl) (by first | assumption | exact hA _ _ | exact hB _ _ | exact zrg_max (by assumption) (hA _ _) | (constructor <;> omega)) (fun hc => ?_) (fun hc => ?_)
    ·
      refine xg_step rfl rfl (fun k => rfl) ?_
      refine zg_ast (.inl ⟨rfl, rfl⟩) (zha (by omega)) (zc_cells hs) (by decide) ⟨by omega, by omega⟩ (zhwA (by omega) (zw_cells hs)) ?_
      refine xg_step rfl rfl (fun k => rfl) ?_
      refine xg_step rfl rfl (fun k => rfl) ?_
      refine zg_eq rfl rfl (fun x y k => rfl) (by first | assumption | exact hA _ _ | exact hB _ _ | exact zrg_max (by assumption) (hA _ _) | (constructor <;> omega)) (by first | assumption | exact hA _ _ | exact hB _ _ | exact zrg_max (by assumption) (hA _ _) | (constructor <;> omega)) (fun hc => ?_) (fun hc => ?_)
      ·
        refine xg_step rfl rfl (fun k => rfl) ?_
        refine xg_step rfl rfl (fun k => rfl) ?_
        refine zg_geti (x := A (44 + 2 * s) 2) rfl rfl (zha (by omega)) (zc_Counter hs) rfl ((zup_ne (by omega)).trans ((zup_ne (by omega)).trans ((zup_ne (by omega)).trans ((zup_ne (by omega)).trans ((zup_ne (by omega)).trans (zup_ne (by omega))))))) ?_
        refine xg_step rfl rfl (fun k => rfl) ?_
        refine zg_max rfl rfl (Nat.le_of_ble_eq_true rfl) (by first | assumption | exact hA _ _ | exact hB _ _ | exact zrg_max (by assumption) (hA _ _) | (constructor <;> omega)) (by first | assumption | exact hA _ _ | exact hB _ _ | exact zrg_max (by assumption) (hA _ _) | (constructor <;> omega)) ?_
        refine zg_put rfl rfl (zha (by omega)) (zc_Counter hs) (Nat.le_of_ble_eq_true rfl) rfl zfitI rfl (zhwA (by omega) (zw_Counter_2 hs)) ?_
        refine xg_step rfl rfl (fun k => rfl) ?_
        refine zg_geti (x := (A (44 + 2 * s) 1) + 1) rfl rfl (zha (by omega)) (zc_Counter hs) rfl ((zup_ne (by omega)).trans ((zup_ne (by omega)).trans ((zup_ne (by omega)).trans ((zup_ne (by omega)).trans ((zup_ne (by omega)).trans ((zup_ne (by omega)).trans (zup_eq ⟨by omega, by omega⟩))))))) ?_
        refine zg_iret rfl rfl zfitI ?_
        unfold zadd; dsimp only; (repeat' split) <;> first | rfl | omega
      ·
        refine xg_step rfl rfl (fun k => rfl) ?_
        refine zg_geti (x := (A (44 + 2 * s) 1) + 1) rfl rfl (zha (by omega)) (zc_Counter hs) rfl ((zup_ne (by omega)).trans ((zup_ne (by omega)).trans ((zup_ne (by omega)).trans ((zup_ne (by omega)).trans ((zup_ne (by omega)).trans (zup_eq ⟨by omega, by omega⟩)))))) ?_
        refine zg_iret rfl rfl zfitI ?_
        unfold zadd; dsimp only; (repeat' split) <;> first | rfl | omega
    ·
      refine xg_step rfl rfl (fun k => rfl) ?_
      refine xg_step rfl rfl (fun k => rfl) ?_
      refine zg_ast (.inl ⟨rfl, rfl⟩) (zha (by omega)) (zc_cells hs) (by decide) ⟨by omega, by omega⟩ (zhwA (by omega) (zw_cells hs)) ?_
      refine xg_step rfl rfl (fun k => rfl) ?_
      refine xg_step rfl rfl (fun k => rfl) ?_
      refine zg_eq rfl rfl (fun x y k => rfl) (by first | assumption | exact hA _ _ | exact hB _ _ | exact zrg_max (by assumption) (hA _ _) | (constructor <;> omega)) (by first | assumption | exact hA _ _ | exact hB _ _ | exact zrg_max (by assumption) (hA _ _) | (constructor <;> omega)) (fun hc => ?_) (fun hc => ?_)
      ·
        refine xg_step rfl rfl (fun k => rfl) ?_
        refine xg_step rfl rfl (fun k => rfl) ?_
        refine zg_geti (x := A (44 + 2 * s) 2) rfl rfl (zha (by omega)) (zc_Counter hs) rfl ((zup_ne (by omega)).trans ((zup_ne (by omega)).trans ((zup_ne (by omega)).trans ((zup_ne (by omega)).trans ((zup_ne (by omega)).trans (zup_ne (by omega))))))) ?_
        refine xg_step rfl rfl (fun k => rfl) ?_
        refine zg_max rfl rfl (Nat.le_of_ble_eq_true rfl) (by first | assumption | exact hA _ _ | exact hB _ _ | exact zrg_max (by assumption) (hA _ _) | (constructor <;> omega)) (by first | assumption | exact hA _ _ | exact hB _ _ | exact zrg_max (by assumption) (hA _ _) | (constructor <;> omega)) ?_
        refine zg_put rfl rfl (zha (by omega)) (zc_Counter hs) (Nat.le_of_ble_eq_true rfl) rfl zfitI rfl (zhwA (by omega) (zw_Counter_2 hs)) ?_
        refine xg_step rfl rfl (fun k => rfl) ?_
        refine zg_geti (x := (A (44 + 2 * s) 1) + 1) rfl rfl (zha (by omega)) (zc_Counter hs) rfl ((zup_ne (by omega)).trans ((zup_ne (by omega)).trans ((zup_ne (by omega)).trans ((zup_ne (by omega)).trans ((zup_ne (by omega)).trans ((zup_ne (by omega)).trans (zup_eq ⟨by omega, by omega⟩))))))) ?_
        refine zg_iret rfl rfl zfitI ?_
        unfold zadd; dsimp only; (repeat' split) <;> first | rfl | omega
      ·
        refine xg_step rfl rfl (fun k => rfl) ?_
        refine zg_geti (x := (A (44 + 2 * s) 1) + 1) rfl rfl (zha (by omega)) (zc_Counter hs) rfl ((zup_ne (by omega)).trans ((zup_ne (by omega)).trans ((zup_ne (by omega)).trans ((zup_ne (by omega)).trans ((zup_ne (by omega)).trans (zup_eq ⟨by omega, by omega⟩)))))) ?_
        refine zg_iret rfl rfl zfitI ?_
        unfold zadd; dsimp only; (repeat' split) <;> first | rfl | omega
def znote (A : ZM) (t v p : Int) : ZM := if A (64 + 17 * t) v = 0 then zup A (64 + 17 * t) v p else if A (65 + 17 * t) v = 0 ∧ A (64 + 17 * t) v % 3 ≠ p % 3 then zup A (65 + 17 * t) v p else A
set_option maxRecDepth 10000 in
theorem zr_15 {d : Nat} {A B : ZM} {s : Int} (hs : 0 ≤ s ∧ s < 3) (hA : zRg A) {v p : Int} (hv : 0 ≤ v ∧ v < 31) (hp : 0 ≤ p ∧ p < 2147483648) (hf : 0 ≤ A (64 + 17 * s) v ∧ A (64 + 17 * s) v < 2147483648) : XR (d + 2) 15 [.ref (63 + 17 * s.toNat), zci (v), zci (p)] (zhp A B) (none, zhp (znote A s v p) B) := by
  refine XR.of (Nat.le_of_ble_eq_true rfl) rfl ?_
  refine xg_step rfl rfl (fun k => rfl) ?_
  refine xg_get rfl rfl (zha (by omega)) (zc_Changes hs) rfl rfl ?_
  refine xg_step rfl rfl (fun k => rfl) ?_
  refine zg_ald (.inl ⟨rfl, rfl⟩) (zha (by omega)) (zc_first hs) (by decide) ⟨by omega, by omega⟩ rfl ?_
  refine zg_eq0 rfl rfl (fun x k => rfl) (by first | assumption | exact hA _ _ | exact hB _ _ | exact zrg_max (by assumption) (hA _ _) | (constructor <;> omega)) (fun hc => ?_) (fun hc => ?_)
  ·
    refine xg_step rfl rfl (fun k => rfl) ?_
    refine xg_get rfl rfl (zha (by omega)) (zc_Changes hs) rfl rfl ?_
    refine xg_step rfl rfl (fun k => rfl) ?_
    refine xg_step rfl rfl (fun k => rfl) ?_
    refine zg_ast (.inl ⟨rfl, rfl⟩) (zha (by omega)) (zc_first hs) (by decide) ⟨by omega, by omega⟩ (zhwA (by omega) (zw_first hs)) ?_
    refine xg_step rfl rfl (fun k => rfl) ?_
    refine zg_ret rfl rfl ?_
    unfold znote; (repeat' split) <;> first | rfl | omega
  ·
    refine xg_step rfl rfl (fun k => rfl) ?_
    refine xg_get rfl rfl (zha (by omega)) (zc_Changes hs) rfl rfl ?_
    refine xg_step rfl rfl (fun k => rfl) ?_
    refine zg_ald (.inl ⟨rfl, rfl⟩) (zha (by omega)) (zc_second hs) (by decide) ⟨by omega, by omega⟩ rfl ?_
    refine zg_eq0 rfl rfl (fun x k => rfl) (by first | assumption | exact hA _ _ | exact hB _ _ | exact zrg_max (by assumption) (hA _ _) | (constructor <;> omega)) (fun hc => ?_) (fun hc => ?_)
    ·
      refine xg_step rfl rfl (fun k => rfl) ?_
      refine xg_get rfl rfl (zha (by omega)) (zc_Changes hs) rfl rfl ?_
      refine xg_step rfl rfl (fun k => rfl) ?_
      refine zg_ald (.inl ⟨rfl, rfl⟩) (zha (by omega)) (zc_first hs) (by decide) ⟨by omega, by omega⟩ rfl ?_
      refine zg_csi rfl rfl (by decide) rfl rfl (Nat.le_of_ble_eq_true rfl) rfl (zr_101 hA (by omega)) ?_
      refine xg_step rfl rfl (fun k => rfl) ?_
      refine zg_csi rfl rfl (by decide) rfl rfl (Nat.le_of_ble_eq_true rfl) rfl (zr_101 hA (by omega)) ?_
      refine zg_eq rfl rfl (fun x y k => rfl) (by first | assumption | exact hA _ _ | exact hB _ _ | exact zrg_max (by assumption) (hA _ _) | (constructor <;> omega)) (by first | assumption | exact hA _ _ | exact hB _ _ | exact zrg_max (by assumption) (hA _ _) | (constructor <;> omega)) (fun hc => ?_) (fun hc => ?_)
      ·
        refine zg_ret rfl rfl ?_
        unfold znote; (repeat' split) <;> first | rfl | omega
      ·
        refine xg_step rfl rfl (fun k => rfl) ?_
        refine xg_get rfl rfl (zha (by omega)) (zc_Changes hs) rfl rfl ?_
        refine xg_step rfl rfl (fun k => rfl) ?_
        refine xg_step rfl rfl (fun k => rfl) ?_
        refine zg_ast (.inl ⟨rfl, rfl⟩) (zha (by omega)) (zc_second hs) (by decide) ⟨by omega, by omega⟩ (zhwA (by omega) (zw_second hs)) ?_
        refine zg_ret rfl rfl ?_
        unfold znote; (repeat' split) <;> first | rfl | omega
    ·
      refine zg_ret rfl rfl ?_
      unfold znote; (repeat' split) <;> first | rfl | omega
def zrqA (A : ZM) (c k q n : Int) : ZM := zup (zup (zup (zup (zup (zup (zup A 7 c (A 7 c + 1)) 2 (A 1 6) c) 3 (A 1 6) (A 7 c + 1)) 4 (A 1 6) k) 5 (A 1 6) q) 6 (A 1 6) n) 1 6 (A 1 6 + 1)
set_option maxRecDepth 10000 in
theorem zr_36 {d : Nat} {A B : ZM} (hA : zRg A) {c k q n : Int} (hc4 : 0 ≤ c ∧ c < 4) (hq : 0 ≤ A 1 6 ∧ A 1 6 < 60) : XR (d + 2) 36 [.ref 1, zci (c), zci (k), zci (q), zci (n)] (zhp A B) (some (zci (A 1 6 + 1 - 1)), zhp (zrqA A c k q n) B) := by
  refine XR.of (Nat.le_of_ble_eq_true rfl) rfl ?_
  refine xg_step rfl rfl (fun k => rfl) ?_
  refine zg_cvb rfl rfl rfl (Nat.le_of_ble_eq_true rfl) (zha (by decide)) zc_Requests rfl rfl (zr_34 hA) (fun hc => ?_) (fun hc => ?_)
  ·
    refine xg_step rfl rfl (fun k => rfl) ?_
    refine xg_step rfl rfl (fun k => rfl) ?_
    refine zg_iret rfl rfl zfitI ?_
    first | rfl | exact (by omega : False).elim
  ·
    refine xg_step rfl rfl (fun k => rfl) ?_
    refine xg_step rfl rfl (fun k => rfl) ?_
    refine zg_lt0 rfl rfl (fun x k => rfl) (by first | assumption | exact hA _ _ | exact hB _ _ | exact zrg_max (by assumption) (hA _ _) | (constructor <;> omega)) (fun hc => ?_) (fun hc => ?_)
    ·
      refine xg_step rfl rfl (fun k => rfl) ?_
      refine zg_iret rfl rfl zfitI ?_
      first | rfl | exact (by omega : False).elim
    ·
      refine xg_step rfl rfl (fun k => rfl) ?_
      refine xg_step rfl rfl (fun k => rfl) ?_
      refine zg_lt rfl rfl (fun x y k => rfl) (by first | assumption | exact hA _ _ | exact hB _ _ | exact zrg_max (by assumption) (hA _ _) | (constructor <;> omega)) (by first | assumption | exact hA _ _ | exact hB _ _ | exact zrg_max (by assumption) (hA _ _) | (constructor <;> omega)) (fun hc => ?_) (fun hc => ?_)
      ·
        refine xg_step rfl rfl (fun k => rfl) ?_
        refine xg_get rfl rfl (zha (by decide)) zc_Requests rfl rfl ?_
        refine xg_step rfl rfl (fun k => rfl) ?_
        refine xg_step rfl rfl (fun k => rfl) ?_
        refine zg_ald (.inl ⟨rfl, rfl⟩) (zha (by decide)) zc_madeBy (by decide) ⟨by omega, by omega⟩ rfl ?_
        refine xg_step rfl rfl (fun k => rfl) ?_
        refine zg_add rfl ?_
        refine zg_ast (.inl ⟨rfl, rfl⟩) (zha (by decide)) zc_madeBy (by decide) ⟨by omega, by omega⟩ (zhwA (by omega) zw_madeBy) ?_
        refine xg_step rfl rfl (fun k => rfl) ?_
        refine xg_get rfl rfl (zha (by decide)) zc_Requests rfl rfl ?_
        refine xg_step rfl rfl (fun k => rfl) ?_
        refine zg_geti (x := A 1 6) rfl rfl (zha (by decide)) zc_Requests rfl (zup_ne (by omega)) ?_
        refine xg_step rfl rfl (fun k => rfl) ?_
        refine zg_ast (.inl ⟨rfl, rfl⟩) (zha (by decide)) zc_client (by decide) ⟨by omega, by omega⟩ (zhwA (by omega) zw_client) ?_
        refine xg_step rfl rfl (fun k => rfl) ?_
        refine xg_get rfl rfl (zha (by decide)) zc_Requests rfl rfl ?_
        refine xg_step rfl rfl (fun k => rfl) ?_
        refine zg_geti (x := A 1 6) rfl rfl (zha (by decide)) zc_Requests rfl ((zup_ne (by omega)).trans (zup_ne (by omega))) ?_
        refine xg_step rfl rfl (fun k => rfl) ?_
        refine xg_get rfl rfl (zha (by decide)) zc_Requests rfl rfl ?_
        refine xg_step rfl rfl (fun k => rfl) ?_
        refine zg_ald (x := (A 7 c) + 1) (.inl ⟨rfl, rfl⟩) (zha (by decide)) zc_madeBy (by decide) ⟨by omega, by omega⟩ ((zup_ne (by omega)).trans (zup_eq ⟨by omega, by omega⟩)) ?_
        refine zg_ast (.inl ⟨rfl, rfl⟩) (zha (by decide)) zc_ownNumber (by decide) ⟨by omega, by omega⟩ (zhwA (by omega) zw_ownNumber) ?_
        refine xg_step rfl rfl (fun k => rfl) ?_
        refine xg_get rfl rfl (zha (by decide)) zc_Requests rfl rfl ?_
        refine xg_step rfl rfl (fun k => rfl) ?_
        refine zg_geti (x := A 1 6) rfl rfl (zha (by decide)) zc_Requests rfl ((zup_ne (by omega)).trans ((zup_ne (by omega)).trans (zup_ne (by omega)))) ?_
        refine xg_step rfl rfl (fun k => rfl) ?_
        refine zg_ast (.inl ⟨rfl, rfl⟩) (zha (by decide)) zc_kind (by decide) ⟨by omega, by omega⟩ (zhwA (by omega) zw_kind) ?_
        refine xg_step rfl rfl (fun k => rfl) ?_
        refine xg_get rfl rfl (zha (by decide)) zc_Requests rfl rfl ?_
        refine xg_step rfl rfl (fun k => rfl) ?_
        refine zg_geti (x := A 1 6) rfl rfl (zha (by decide)) zc_Requests rfl ((zup_ne (by omega)).trans ((zup_ne (by omega)).trans ((zup_ne (by omega)).trans (zup_ne (by omega))))) ?_
        refine xg_step rfl rfl (fun k => rfl) ?_
        refine zg_ast (.inl ⟨rfl, rfl⟩) (zha (by decide)) zc_key (by decide) ⟨by omega, by omega⟩ (zhwA (by omega) zw_key) ?_
        refine xg_step rfl rfl (fun k => rfl) ?_
        refine xg_get rfl rfl (zha (by decide)) zc_Requests rfl rfl ?_
        refine xg_step rfl rfl (fun k => rfl) ?_
        refine zg_geti (x := A 1 6) rfl rfl (zha (by decide)) zc_Requests rfl ((zup_ne (by omega)).trans ((zup_ne (by omega)).trans ((zup_ne (by omega)).trans ((zup_ne (by omega)).trans (zup_ne (by omega)))))) ?_
        refine xg_step rfl rfl (fun k => rfl) ?_
        refine zg_ast (.inl ⟨rfl, rfl⟩) (zha (by decide)) zc_operand (by decide) ⟨by omega, by omega⟩ (zhwA (by omega) zw_operand) ?_
        refine xg_step rfl rfl (fun k => rfl) ?_
        refine xg_step rfl rfl (fun k => rfl) ?_
        refine zg_geti (x := A 1 6) rfl rfl (zha (by decide)) zc_Requests rfl ((zup_ne (by omega)).trans ((zup_ne (by omega)).trans ((zup_ne (by omega)).trans ((zup_ne (by omega)).trans ((zup_ne (by omega)).trans (zup_ne (by omega))))))) ?_
        refine xg_step rfl rfl (fun k => rfl) ?_
        refine zg_add rfl ?_
        refine zg_put rfl rfl (zha (by decide)) zc_Requests (Nat.le_of_ble_eq_true rfl) rfl zfitI rfl (zhwA (by omega) zw_Requests_6) ?_
        refine xg_step rfl rfl (fun k => rfl) ?_
        refine zg_geti (x := (A 1 6) + 1) rfl rfl (zha (by decide)) zc_Requests rfl (zup_eq ⟨by omega, by omega⟩) ?_
        refine xg_step rfl rfl (fun k => rfl) ?_
        refine zg_sub rfl ?_
        refine zg_iret rfl rfl zfitI ?_
        first | rfl | exact (by omega : False).elim
      ·
        refine xg_step rfl rfl (fun k => rfl) ?_
        refine zg_iret rfl rfl zfitI ?_
        first | rfl | exact (by omega : False).elim
