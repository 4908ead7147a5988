/-! the reference's questions -/
set_option maxRecDepth 10000 in
theorem zq_106 {d : Nat} {A B C : ZM} (hB : zRg B) (hC : zRg C) {s k : Int} : XR (d + 1) 106 [zci (s), zci (k)] (zhp A (zmg B C)) (some (zci (101 * s + k)), zhp A (zmg B C)) := by
  refine XR.of (Nat.le_of_ble_eq_true rfl) rfl ?_
  refine zg_bi rfl (by decide) ?_
  refine xg_step rfl rfl (fun k => rfl) ?_
  refine zg_mul rfl ?_
  refine xg_step rfl rfl (fun k => rfl) ?_
  refine zg_add rfl ?_
  refine zg_iret rfl rfl zfitI ?_
  rfl
set_option maxRecDepth 10000 in
theorem zq_107 {d : Nat} {A B C : ZM} (hB : zRg B) (hC : zRg C) {s k : Int} (hs : 0 ≤ s ∧ s < 3) (hk : zrg k) : XR (d + 1) 107 [.ref 107, zci (s), zci (k)] (zhp A (zmg B C)) (some (zci (zb2 (1 ≤ k ∧ k ≤ B (44 + 2 * s) 1))), zhp A (zmg B C)) := by
  refine XR.of (Nat.le_of_ble_eq_true rfl) rfl ?_
  refine xg_step rfl rfl (fun k => rfl) ?_
  refine xg_step rfl rfl (fun k => rfl) ?_
  refine zg_lt rfl rfl (fun x y k => rfl) (by first | assumption | exact hA _ _ | exact hB _ _ | exact hC _ _ | exact zrg_max (by assumption) (hA _ _) | (constructor <;> omega)) (by first | assumption | exact hA _ _ | exact hB _ _ | exact hC _ _ | exact zrg_max (by assumption) (hA _ _) | (constructor <;> omega)) (fun hc => ?_) (fun hc => ?_)
  ·
    refine xg_step rfl rfl (fun k => rfl) ?_
    refine zg_iret rfl rfl (zfitZ (by omega)) ?_
    exact zl0 (by omega)
  ·
    refine xg_step rfl rfl (fun k => rfl) ?_
    refine xg_step rfl rfl (fun k => rfl) ?_
    refine xg_get rfl rfl (zha (by decide)) zc_RefM rfl rfl ?_
    refine xg_step rfl rfl (fun k => rfl) ?_
    refine zg_ald (.inl ⟨rfl, rfl⟩) (zha (by decide)) zc_r_many (by decide) ⟨by omega, by omega⟩ (zvB (zk_many (by omega)) (by omega)) ?_
    refine zg_gt rfl rfl (fun x y k => rfl) (by first | assumption | exact hA _ _ | exact hB _ _ | exact hC _ _ | exact zrg_max (by assumption) (hA _ _) | (constructor <;> omega)) (by first | assumption | exact hA _ _ | exact hB _ _ | exact hC _ _ | exact zrg_max (by assumption) (hA _ _) | (constructor <;> omega)) (fun hc => ?_) (fun hc => ?_)
    ·
      refine xg_step rfl rfl (fun k => rfl) ?_
      refine zg_iret rfl rfl (zfitZ (by omega)) ?_
      exact zl0 (by omega)
    ·
      refine xg_step rfl rfl (fun k => rfl) ?_
      refine xg_step rfl rfl (fun k => rfl) ?_
      refine zg_iret rfl rfl (zfitZ (by omega)) ?_
      exact zl1 (by omega)
def zHL (B : ZM) (s w : Int) (i : Int) : Bool := decide (B (45 + 2 * s) (i * 5 + 0) = 2 ∧ w < B (45 + 2 * s) (i * 5 + 1))
theorem zxt {q : Prop} [Decidable q] {h : Int} (e : h = zb2 q) (hn : ¬ h = 0) : q := Decidable.byContradiction fun hq => hn (e.trans (zb2_f hq))
theorem zxf {q : Prop} [Decidable q] {h : Int} (e : h = zb2 q) (hn : h = 0) : ¬ q := fun hq => by rw [zb2_t hq] at e; omega
theorem zxh1 {p : Int → Bool} {i : Int} (hi : 1 ≤ i) (h : zex p (i - 1) = true ∨ p i = true) : 1 = zb2 (zex p (i + 1 - 1) = true) := by
  rw [show i + 1 - 1 = i by omega, zex_S hi, zb2_t]
  rcases h with h | h <;> simp [h]
theorem zxh0 {p : Int → Bool} {i : Int} (hi : 1 ≤ i) (h : ¬ zex p (i - 1) = true) (h2 : p i = false) : 0 = zb2 (zex p (i + 1 - 1) = true) := by
  rw [show i + 1 - 1 = i by omega, zex_S hi, zb2_f]
  simp [h, h2]
theorem zxhk {p : Int → Bool} {i h : Int} (hi : 1 ≤ i) (hh : h = zb2 (zex p (i - 1) = true)) (h2 : p i = false) : h = zb2 (zex p (i + 1 - 1) = true) := by
  rw [hh, show i + 1 - 1 = i by omega, zex_S hi, h2, Bool.or_false]
theorem zb2_iff {p q : Prop} [Decidable p] [Decidable q] (h : p ↔ q) : zb2 p = zb2 q := by
  by_cases hp : p
  · rw [zb2_t hp, zb2_t (h.mp hp)]
  · rw [zb2_f hp, zb2_f (fun hq => hp (h.mpr hq))]
theorem zb2_01 {p : Prop} [Decidable p] : zb2 p = 0 ∨ zb2 p = 1 := by
  by_cases hp : p
  · exact .inr (zb2_t hp)
  · exact .inl (zb2_f hp)
set_option maxRecDepth 10000 in
theorem zql_108 {d : Nat} {A B C : ZM} (hB : zRg B) (hC : zRg C) {s w k : Int} (hs : 0 ≤ s ∧ s < 3) (hw : zrg w) (hk : 1 ≤ k ∧ k ≤ 101) {h i : Int} (h01 : h = 0 ∨ h = 1) (hi : 1 ≤ i) (hil : i ≤ k - 1 + 1) (hh : h = zb2 (zex (zHL B s w) (i - 1) = true)) {r : Option Value × XS} (hr : r = (some (zci (zb2 (zex (zHL B s w) (k - 1) = true))), zhp A (zmg B C))) : XG (d + 1) 108 6 [some (.ref 107), some (zci (s)), some (zci (w)), some (zci (k)), some (zci (h)), some (zci (i))] [] (zhp A (zmg B C)) r := by
  refine xg_step rfl rfl (fun k => rfl) ?_
  refine xg_step rfl rfl (fun k => rfl) ?_
  refine zg_lt rfl rfl (fun x y k => rfl) (by first | assumption | exact hA _ _ | exact hB _ _ | exact hC _ _ | exact zrg_max (by assumption) (hA _ _) | (constructor <;> omega)) (by first | assumption | exact hA _ _ | exact hB _ _ | exact hC _ _ | exact zrg_max (by assumption) (hA _ _) | (constructor <;> omega)) (fun hc => ?_) (fun hc => ?_)
  ·
    refine xg_step rfl rfl (fun k => rfl) ?_
    refine zg_eq0 rfl rfl (fun x k => rfl) (by first | assumption | exact hA _ _ | exact hB _ _ | exact hC _ _ | exact zrg_max (by assumption) (hA _ _) | (constructor <;> omega)) (fun hc => ?_) (fun hc => ?_)
    ·
      refine xg_step rfl rfl (fun k => rfl) ?_
      refine xg_get rfl rfl (zha (by decide)) zc_RefM rfl rfl ?_
      refine xg_step rfl rfl (fun k => rfl) ?_
      refine xg_step rfl rfl (fun k => rfl) ?_
      refine zg_csi rfl rfl (by decide) rfl rfl (Nat.le_of_ble_eq_true rfl) rfl (zq_106 hB hC) ?_
      refine zg_ald (.inl ⟨rfl, rfl⟩) (zha (by decide)) zc_r_kinds (by decide) ⟨by omega, by omega⟩ (zvB (zk_kinds (by omega) (by omega)) (by omega)) ?_
      refine xg_step rfl rfl (fun k => rfl) ?_
      refine zg_eq rfl rfl (fun x y k => rfl) (by first | assumption | exact hA _ _ | exact hB _ _ | exact hC _ _ | exact zrg_max (by assumption) (hA _ _) | (constructor <;> omega)) (by first | assumption | exact hA _ _ | exact hB _ _ | exact hC _ _ | exact zrg_max (by assumption) (hA _ _) | (constructor <;> omega)) (fun hc => ?_) (fun hc => ?_)
      ·
        refine xg_step rfl rfl (fun k => rfl) ?_
        refine xg_get rfl rfl (zha (by decide)) zc_RefM rfl rfl ?_
        refine xg_step rfl rfl (fun k => rfl) ?_
        refine xg_step rfl rfl (fun k => rfl) ?_
        refine zg_csi rfl rfl (by decide) rfl rfl (Nat.le_of_ble_eq_true rfl) rfl (zq_106 hB hC) ?_
        refine zg_ald (.inl ⟨rfl, rfl⟩) (zha (by decide)) zc_r_views (by decide) ⟨by omega, by omega⟩ (zvB (zk_views (by omega) (by omega)) (by omega)) ?_
        refine xg_step rfl rfl (fun k => rfl) ?_
        refine zg_gt rfl rfl (fun x y k => rfl) (by first | assumption | exact hA _ _ | exact hB _ _ | exact hC _ _ | exact zrg_max (by assumption) (hA _ _) | (constructor <;> omega)) (by first | assumption | exact hA _ _ | exact hB _ _ | exact hC _ _ | exact zrg_max (by assumption) (hA _ _) | (constructor <;> omega)) (fun hc => ?_) (fun hc => ?_)
        ·
          refine xg_step rfl rfl (fun k => rfl) ?_
          refine xg_step rfl rfl (fun k => rfl) ?_
          refine xg_step rfl rfl (fun k => rfl) ?_
          refine zg_inc rfl rfl rfl rfl ?_
          refine xg_step rfl rfl (fun k => rfl) ?_
          exact zql_108 hB hC hs hw hk (by omega) (by omega) (by omega) (zxh1 (by omega) (by first | exact .inl (zxt hh (by assumption)) | exact .inr (decide_eq_true (by omega)))) hr
        ·
          refine xg_step rfl rfl (fun k => rfl) ?_
          refine xg_step rfl rfl (fun k => rfl) ?_
          refine zg_inc rfl rfl rfl rfl ?_
          refine xg_step rfl rfl (fun k => rfl) ?_
          exact zql_108 hB hC hs hw hk (by omega) (by omega) (by omega) (zxh0 (by omega) (zxf hh (by assumption)) (decide_eq_false (by omega))) hr
      ·
        refine xg_step rfl rfl (fun k => rfl) ?_
        refine xg_step rfl rfl (fun k => rfl) ?_
        refine zg_inc rfl rfl rfl rfl ?_
        refine xg_step rfl rfl (fun k => rfl) ?_
        exact zql_108 hB hC hs hw hk (by omega) (by omega) (by omega) (zxh0 (by omega) (zxf hh (by assumption)) (decide_eq_false (by omega))) hr
    ·
      refine xg_step rfl rfl (fun k => rfl) ?_
      refine xg_step rfl rfl (fun k => rfl) ?_
      refine xg_step rfl rfl (fun k => rfl) ?_
      refine zg_inc rfl rfl rfl rfl ?_
      refine xg_step rfl rfl (fun k => rfl) ?_
      exact zql_108 hB hC hs hw hk (by omega) (by omega) (by omega) (zxh1 (by omega) (by first | exact .inl (zxt hh (by assumption)) | exact .inr (decide_eq_true (by omega)))) hr
  ·
    refine xg_step rfl rfl (fun k => rfl) ?_
    refine zg_iret rfl rfl (zfitZ (by omega)) ?_
    (rw [hr, hh, show i - 1 = k - 1 by omega])
termination_by (k - 1 + 1 - i).toNat
decreasing_by all_goals omega
set_option maxRecDepth 10000 in
theorem zq_108 {d : Nat} {A B C : ZM} (hB : zRg B) (hC : zRg C) {s w k : Int} (hs : 0 ≤ s ∧ s < 3) (hw : zrg w) (hk : 1 ≤ k ∧ k ≤ 101) : XR (d + 2) 108 [.ref 107, zci (s), zci (w), zci (k)] (zhp A (zmg B C)) (some (zci (zb2 (zex (zHL B s w) (k - 1) = true))), zhp A (zmg B C)) := by
  refine XR.of (Nat.le_of_ble_eq_true rfl) rfl ?_
  refine xg_step rfl rfl (fun k => rfl) ?_
  refine xg_step rfl rfl (fun k => rfl) ?_
  refine xg_step rfl rfl (fun k => rfl) ?_
  refine xg_step rfl rfl (fun k => rfl) ?_
  exact zql_108 hB hC hs hw hk (by omega) (by omega) (by omega) (by rw [zb2_f (by rw [zex_0 (by omega)]; decide)]) rfl
abbrev zIC (B C : ZM) (x w m : Int) : Prop := zOf B (x % 3) (x / 3) 2 w ∧ C 119 (101 * (x % 3) + x / 3) < m
abbrev zLf (B : ZM) (s w k : Int) : Prop := zex (zHL B s w) (k - 1) = true
abbrev zVN (B C : ZM) (s k : Int) : Prop := B (45 + 2 * s) (k * 5 + 1) % 3 ≠ s ∨ B (45 + 2 * s) (k * 5 + 1) = 0 ∨ B (45 + 2 * s) (k * 5 + 2) % 3 = B (45 + 2 * s) (k * 5 + 3) % 3 ∨ ¬ zIC B C (B (45 + 2 * s) (k * 5 + 2)) (B (45 + 2 * s) (k * 5 + 1)) (C 119 (101 * s + k)) ∨ ¬ zIC B C (B (45 + 2 * s) (k * 5 + 3)) (B (45 + 2 * s) (k * 5 + 1)) (C 119 (101 * s + k)) ∨ zLf B s (B (45 + 2 * s) (k * 5 + 1)) k
abbrev zVP (B : ZM) (s k : Int) : Prop := B (45 + 2 * s) (k * 5 + 1) % 3 ≠ s ∨ (0 < B (45 + 2 * s) (k * 5 + 1) ∧ (B 10 (B (45 + 2 * s) (k * 5 + 1)) = 0 ∨ k < B 10 (B (45 + 2 * s) (k * 5 + 1)))) ∨ zLf B s (B (45 + 2 * s) (k * 5 + 1)) k
abbrev zVC (B C : ZM) (s k : Int) : Prop := (s = B (45 + 2 * s) (k * 5 + 1) % 3 ∨ zLf B s (B (45 + 2 * s) (k * 5 + 1)) k ∨ ¬ (1 ≤ B (45 + 2 * s) (k * 5 + 2) ∧ B (45 + 2 * s) (k * 5 + 2) ≤ B (44 + 2 * (B (45 + 2 * s) (k * 5 + 1) % 3)) 1) ∨ C 119 (101 * s + k) < C 119 (101 * (B (45 + 2 * s) (k * 5 + 1) % 3) + B (45 + 2 * s) (k * 5 + 2))) ∨ (¬ (B (45 + 2 * (B (45 + 2 * s) (k * 5 + 1) % 3)) (B (45 + 2 * s) (k * 5 + 2) * 5 + 0) = 0 ∧ B (45 + 2 * (B (45 + 2 * s) (k * 5 + 1) % 3)) (B (45 + 2 * s) (k * 5 + 2) * 5 + 1) = B (45 + 2 * s) (k * 5 + 1) ∧ B (45 + 2 * (B (45 + 2 * s) (k * 5 + 1) % 3)) (B (45 + 2 * s) (k * 5 + 2) * 5 + 4) = 0) ∧ (B (45 + 2 * s) (k * 5 + 1) = 0 ∨ B 10 (B (45 + 2 * s) (k * 5 + 1)) ≠ B (45 + 2 * s) (k * 5 + 2)))
/-- a message's ranges -/
def zMr (B : ZM) (s k : Int) : Prop := (0 ≤ B (45 + 2 * s) (k * 5 + 0) ∧ B (45 + 2 * s) (k * 5 + 0) < 4) ∧ (0 ≤ B (45 + 2 * s) (k * 5 + 1) ∧ B (45 + 2 * s) (k * 5 + 1) < 31) ∧ (0 ≤ B (45 + 2 * s) (k * 5 + 2) ∧ B (45 + 2 * s) (k * 5 + 2) < 1000) ∧ (0 ≤ B (45 + 2 * s) (k * 5 + 3) ∧ B (45 + 2 * s) (k * 5 + 3) < 1000)
/-- the log: every flag says what the reference would find; every OPENING is the first -/
def zOpn (B : ZM) (w : Int) : Prop := (0 ≤ B 10 w ∧ B 10 w ≤ B (44 + 2 * (w % 3)) 1) ∧ (∀ k, 1 ≤ k ∧ k ≤ B (44 + 2 * (w % 3)) 1 → (B 10 w = 0 ∨ k < B 10 w) → ¬ (B (45 + 2 * (w % 3)) (k * 5 + 0) = 3 ∧ B (45 + 2 * (w % 3)) (k * 5 + 1) = w ∧ B (45 + 2 * (w % 3)) (k * 5 + 4) = 0)) ∧ (1 ≤ B 10 w → B (45 + 2 * (w % 3)) (B 10 w * 5 + 0) = 3 ∧ B (45 + 2 * (w % 3)) (B 10 w * 5 + 1) = w ∧ B (45 + 2 * (w % 3)) (B 10 w * 5 + 4) = 0)
def zLI (B C : ZM) : Prop := (∀ s, 0 ≤ s ∧ s < 3 → 0 ≤ B (44 + 2 * s) 1 ∧ B (44 + 2 * s) 1 ≤ 100) ∧ (∀ s k, 0 ≤ s ∧ s < 3 → 1 ≤ k ∧ k ≤ B (44 + 2 * s) 1 → zMr B s k ∧ (B (45 + 2 * s) (k * 5 + 0) = 3 → (¬ B (45 + 2 * s) (k * 5 + 4) = 0 ↔ zVN B C s k)) ∧ (B (45 + 2 * s) (k * 5 + 0) = 0 → (¬ B (45 + 2 * s) (k * 5 + 4) = 0 ↔ zVP B s k)) ∧ (B (45 + 2 * s) (k * 5 + 0) = 1 → (¬ B (45 + 2 * s) (k * 5 + 4) = 0 ↔ zVC B C s k)) ∧ (B (45 + 2 * s) (k * 5 + 0) = 2 → B (45 + 2 * s) (k * 5 + 4) = 0)) ∧ B 10 0 = 0 ∧ (∀ w, 1 ≤ w ∧ w < 31 → zOpn B w)
set_option maxRecDepth 10000 in
theorem zq_109 {d : Nat} {A B C : ZM} (hB : zRg B) (hC : zRg C) {x w m : Int} (hx : 0 ≤ x ∧ x < 2147483648) (hw : zrg w) (hm : zrg m) (hcN : ∀ s, 0 ≤ s ∧ s < 3 → 0 ≤ B (44 + 2 * s) 1 ∧ B (44 + 2 * s) 1 ≤ 100) : XR (d + 2) 109 [.ref 107, zci (x), zci (w), zci (m)] (zhp A (zmg B C)) (some (zci (zb2 (zIC B C x w m))), zhp A (zmg B C)) := by
  have hcx := hcN (x % 3) (by omega)
  refine XR.of (Nat.le_of_ble_eq_true rfl) rfl ?_
  refine xg_step rfl rfl (fun k => rfl) ?_
  refine xg_step rfl rfl (fun k => rfl) ?_
  refine zg_rem rfl (by omega) ?_
  refine xg_step rfl rfl (fun k => rfl) ?_
  refine xg_step rfl rfl (fun k => rfl) ?_
  refine xg_step rfl rfl (fun k => rfl) ?_
  refine zg_div rfl (by omega) ?_
  refine xg_step rfl rfl (fun k => rfl) ?_
  refine xg_step rfl rfl (fun k => rfl) ?_
  refine xg_step rfl rfl (fun k => rfl) ?_
  refine xg_step rfl rfl (fun k => rfl) ?_
  refine zg_cvb rfl rfl rfl (Nat.le_of_ble_eq_true rfl) (zha (by decide)) zc_RefM rfl rfl (zq_107 hB hC (by omega) (by first | assumption | exact hA _ _ | exact hB _ _ | exact hC _ _ | exact zrg_max (by assumption) (hA _ _) | (constructor <;> omega))) (fun hc => ?_) (fun hc => ?_)
  ·
    refine xg_step rfl rfl (fun k => rfl) ?_
    refine xg_step rfl rfl (fun k => rfl) ?_
    refine xg_get rfl rfl (zha (by decide)) zc_RefM rfl rfl ?_
    refine xg_step rfl rfl (fun k => rfl) ?_
    refine xg_step rfl rfl (fun k => rfl) ?_
    refine zg_csi rfl rfl (by decide) rfl rfl (Nat.le_of_ble_eq_true rfl) rfl (zq_106 hB hC) ?_
    refine zg_ald (.inl ⟨rfl, rfl⟩) (zha (by decide)) zc_r_kinds (by decide) ⟨by omega, by omega⟩ (zvB (zk_kinds (by omega) (by omega)) (by omega)) ?_
    refine xg_step rfl rfl (fun k => rfl) ?_
    refine zg_eq rfl rfl (fun x y k => rfl) (by first | assumption | exact hA _ _ | exact hB _ _ | exact hC _ _ | exact zrg_max (by assumption) (hA _ _) | (constructor <;> omega)) (by first | assumption | exact hA _ _ | exact hB _ _ | exact hC _ _ | exact zrg_max (by assumption) (hA _ _) | (constructor <;> omega)) (fun hc => ?_) (fun hc => ?_)
    ·
      refine xg_step rfl rfl (fun k => rfl) ?_
      refine xg_get rfl rfl (zha (by decide)) zc_RefM rfl rfl ?_
      refine xg_step rfl rfl (fun k => rfl) ?_
      refine xg_step rfl rfl (fun k => rfl) ?_
      refine zg_csi rfl rfl (by decide) rfl rfl (Nat.le_of_ble_eq_true rfl) rfl (zq_106 hB hC) ?_
      refine zg_ald (.inl ⟨rfl, rfl⟩) (zha (by decide)) zc_r_views (by decide) ⟨by omega, by omega⟩ (zvB (zk_views (by omega) (by omega)) (by omega)) ?_
      refine xg_step rfl rfl (fun k => rfl) ?_
      refine zg_eq rfl rfl (fun x y k => rfl) (by first | assumption | exact hA _ _ | exact hB _ _ | exact hC _ _ | exact zrg_max (by assumption) (hA _ _) | (constructor <;> omega)) (by first | assumption | exact hA _ _ | exact hB _ _ | exact hC _ _ | exact zrg_max (by assumption) (hA _ _) | (constructor <;> omega)) (fun hc => ?_) (fun hc => ?_)
      ·
        refine xg_step rfl rfl (fun k => rfl) ?_
        refine xg_get rfl rfl (zha (by decide)) zc_RefM rfl rfl ?_
        refine xg_step rfl rfl (fun k => rfl) ?_
        refine xg_step rfl rfl (fun k => rfl) ?_
        refine zg_csi rfl rfl (by decide) rfl rfl (Nat.le_of_ble_eq_true rfl) rfl (zq_106 hB hC) ?_
        refine zg_ald (.inl ⟨rfl, rfl⟩) (zha (by decide)) zc_r_moment (by decide) ⟨by omega, by omega⟩ (zvC zk_moment (by omega)) ?_
        refine xg_step rfl rfl (fun k => rfl) ?_
        refine zg_lt rfl rfl (fun x y k => rfl) (by first | assumption | exact hA _ _ | exact hB _ _ | exact hC _ _ | exact zrg_max (by assumption) (hA _ _) | (constructor <;> omega)) (by first | assumption | exact hA _ _ | exact hB _ _ | exact hC _ _ | exact zrg_max (by assumption) (hA _ _) | (constructor <;> omega)) (fun hc => ?_) (fun hc => ?_)
        ·
          refine xg_step rfl rfl (fun k => rfl) ?_
          refine xg_step rfl rfl (fun k => rfl) ?_
          refine zg_iret rfl rfl (zfitZ (by omega)) ?_
          exact zl1 (by simp only [zIC, zOf]; omega)
        ·
          refine xg_step rfl rfl (fun k => rfl) ?_
          refine zg_iret rfl rfl (zfitZ (by omega)) ?_
          exact zl0 (by simp only [zIC, zOf]; omega)
      ·
        refine xg_step rfl rfl (fun k => rfl) ?_
        refine zg_iret rfl rfl (zfitZ (by omega)) ?_
        exact zl0 (by simp only [zIC, zOf]; omega)
    ·
      refine xg_step rfl rfl (fun k => rfl) ?_
      refine zg_iret rfl rfl (zfitZ (by omega)) ?_
      exact zl0 (by simp only [zIC, zOf]; omega)
  ·
    refine xg_step rfl rfl (fun k => rfl) ?_
    refine xg_step rfl rfl (fun k => rfl) ?_
    refine zg_iret rfl rfl (zfitZ (by omega)) ?_
    exact zl0 (by simp only [zIC, zOf]; omega)
set_option maxRecDepth 10000 in
theorem zq_110 {d : Nat} {A B C : ZM} (hB : zRg B) (hC : zRg C) (hL : zLI B C) {s k : Int} (hs : 0 ≤ s ∧ s < 3) (hk : 1 ≤ k ∧ k ≤ B (44 + 2 * s) 1) : XR (d + 3) 110 [.ref 107, zci (s), zci (k)] (zhp A (zmg B C)) (some (zci (zb2 (zVN B C s k))), zhp A (zmg B C)) := by
  obtain ⟨hcN, hLm, h10, hLo⟩ := hL
  have hcs := hcN s hs
  obtain ⟨⟨m0, m1, m2, m3⟩, q3, q0, q1, q2⟩ := hLm s k hs hk
  refine XR.of (Nat.le_of_ble_eq_true rfl) rfl ?_
  refine xg_step rfl rfl (fun k => rfl) ?_
  refine xg_step rfl rfl (fun k => rfl) ?_
  refine zg_csi rfl rfl (by decide) rfl rfl (Nat.le_of_ble_eq_true rfl) rfl (zq_106 hB hC) ?_
  refine xg_step rfl rfl (fun k => rfl) ?_
  refine xg_step rfl rfl (fun k => rfl) ?_
  refine xg_get rfl rfl (zha (by decide)) zc_RefM rfl rfl ?_
  refine xg_step rfl rfl (fun k => rfl) ?_
  refine zg_ald (.inl ⟨rfl, rfl⟩) (zha (by decide)) zc_r_views (by decide) ⟨by omega, by omega⟩ (zvB (zk_views (by omega) (by omega)) (by omega)) ?_
  refine xg_step rfl rfl (fun k => rfl) ?_
  refine xg_step rfl rfl (fun k => rfl) ?_
  refine xg_step rfl rfl (fun k => rfl) ?_
  refine zg_rem rfl (by omega) ?_
  refine xg_step rfl rfl (fun k => rfl) ?_
  refine zg_eq rfl rfl (fun x y k => rfl) (by first | assumption | exact hA _ _ | exact hB _ _ | exact hC _ _ | exact zrg_max (by assumption) (hA _ _) | (constructor <;> omega)) (by first | assumption | exact hA _ _ | exact hB _ _ | exact hC _ _ | exact zrg_max (by assumption) (hA _ _) | (constructor <;> omega)) (fun hc => ?_) (fun hc => ?_)
  ·
    refine xg_step rfl rfl (fun k => rfl) ?_
    refine zg_eq0 rfl rfl (fun x k => rfl) (by first | assumption | exact hA _ _ | exact hB _ _ | exact hC _ _ | exact zrg_max (by assumption) (hA _ _) | (constructor <;> omega)) (fun hc => ?_) (fun hc => ?_)
    ·
      refine xg_step rfl rfl (fun k => rfl) ?_
      refine xg_step rfl rfl (fun k => rfl) ?_
      refine zg_iret rfl rfl (zfitZ (by omega)) ?_
      exact zl1 (by simp only [zVN] ; first | (left; omega) | (right; left; omega) | (right; right; left; omega) | (right; right; right; left; assumption) | (right; right; right; right; left; assumption) | (right; right; right; right; right; assumption))
    ·
      refine xg_step rfl rfl (fun k => rfl) ?_
      refine xg_get rfl rfl (zha (by decide)) zc_RefM rfl rfl ?_
      refine xg_step rfl rfl (fun k => rfl) ?_
      refine zg_ald (.inl ⟨rfl, rfl⟩) (zha (by decide)) zc_r_as (by decide) ⟨by omega, by omega⟩ (zvB (zk_as (by omega) (by omega)) (by omega)) ?_
      refine xg_step rfl rfl (fun k => rfl) ?_
      refine zg_rem rfl (by omega) ?_
      refine xg_step rfl rfl (fun k => rfl) ?_
      refine xg_get rfl rfl (zha (by decide)) zc_RefM rfl rfl ?_
      refine xg_step rfl rfl (fun k => rfl) ?_
      refine zg_ald (.inl ⟨rfl, rfl⟩) (zha (by decide)) zc_r_bs (by decide) ⟨by omega, by omega⟩ (zvB (zk_bs (by omega) (by omega)) (by omega)) ?_
      refine xg_step rfl rfl (fun k => rfl) ?_
      refine zg_rem rfl (by omega) ?_
      refine zg_eq rfl rfl (fun x y k => rfl) (by first | assumption | exact hA _ _ | exact hB _ _ | exact hC _ _ | exact zrg_max (by assumption) (hA _ _) | (constructor <;> omega)) (by first | assumption | exact hA _ _ | exact hB _ _ | exact hC _ _ | exact zrg_max (by assumption) (hA _ _) | (constructor <;> omega)) (fun hc => ?_) (fun hc => ?_)
      ·
        refine xg_step rfl rfl (fun k => rfl) ?_
        refine xg_step rfl rfl (fun k => rfl) ?_
        refine zg_iret rfl rfl (zfitZ (by omega)) ?_
        exact zl1 (by simp only [zVN] ; first | (left; omega) | (right; left; omega) | (right; right; left; omega) | (right; right; right; left; assumption) | (right; right; right; right; left; assumption) | (right; right; right; right; right; assumption))
      ·
        refine xg_step rfl rfl (fun k => rfl) ?_
        refine xg_step rfl rfl (fun k => rfl) ?_
        refine xg_get rfl rfl (zha (by decide)) zc_RefM rfl rfl ?_
        refine xg_step rfl rfl (fun k => rfl) ?_
        refine zg_ald (.inl ⟨rfl, rfl⟩) (zha (by decide)) zc_r_as (by decide) ⟨by omega, by omega⟩ (zvB (zk_as (by omega) (by omega)) (by omega)) ?_
        refine xg_step rfl rfl (fun k => rfl) ?_
        refine xg_step rfl rfl (fun k => rfl) ?_
        refine xg_get rfl rfl (zha (by decide)) zc_RefM rfl rfl ?_
        refine xg_step rfl rfl (fun k => rfl) ?_
        refine zg_ald (.inl ⟨rfl, rfl⟩) (zha (by decide)) zc_r_moment (by decide) ⟨by omega, by omega⟩ (zvC zk_moment (by omega)) ?_
        refine zg_cvb rfl rfl rfl (Nat.le_of_ble_eq_true rfl) (zha (by decide)) zc_RefM rfl rfl (zq_109 hB hC (by omega) (by first | assumption | exact hA _ _ | exact hB _ _ | exact hC _ _ | exact zrg_max (by assumption) (hA _ _) | (constructor <;> omega)) (by first | assumption | exact hA _ _ | exact hB _ _ | exact hC _ _ | exact zrg_max (by assumption) (hA _ _) | (constructor <;> omega)) hcN) (fun hc => ?_) (fun hc => ?_)
        ·
          refine xg_step rfl rfl (fun k => rfl) ?_
          refine xg_step rfl rfl (fun k => rfl) ?_
          refine xg_step rfl rfl (fun k => rfl) ?_
          refine xg_get rfl rfl (zha (by decide)) zc_RefM rfl rfl ?_
          refine xg_step rfl rfl (fun k => rfl) ?_
          refine zg_ald (.inl ⟨rfl, rfl⟩) (zha (by decide)) zc_r_bs (by decide) ⟨by omega, by omega⟩ (zvB (zk_bs (by omega) (by omega)) (by omega)) ?_
          refine xg_step rfl rfl (fun k => rfl) ?_
          refine xg_step rfl rfl (fun k => rfl) ?_
          refine xg_get rfl rfl (zha (by decide)) zc_RefM rfl rfl ?_
          refine xg_step rfl rfl (fun k => rfl) ?_
          refine zg_ald (.inl ⟨rfl, rfl⟩) (zha (by decide)) zc_r_moment (by decide) ⟨by omega, by omega⟩ (zvC zk_moment (by omega)) ?_
          refine zg_cvb rfl rfl rfl (Nat.le_of_ble_eq_true rfl) (zha (by decide)) zc_RefM rfl rfl (zq_109 hB hC (by omega) (by first | assumption | exact hA _ _ | exact hB _ _ | exact hC _ _ | exact zrg_max (by assumption) (hA _ _) | (constructor <;> omega)) (by first | assumption | exact hA _ _ | exact hB _ _ | exact hC _ _ | exact zrg_max (by assumption) (hA _ _) | (constructor <;> omega)) hcN) (fun hc => ?_) (fun hc => ?_)
          ·
            refine xg_step rfl rfl (fun k => rfl) ?_
            refine xg_step rfl rfl (fun k => rfl) ?_
            refine xg_step rfl rfl (fun k => rfl) ?_
            refine xg_step rfl rfl (fun k => rfl) ?_
            refine xg_step rfl rfl (fun k => rfl) ?_
            refine zg_cvb rfl rfl rfl (Nat.le_of_ble_eq_true rfl) (zha (by decide)) zc_RefM rfl rfl (zq_108 hB hC (by omega) (by first | assumption | exact hA _ _ | exact hB _ _ | exact hC _ _ | exact zrg_max (by assumption) (hA _ _) | (constructor <;> omega)) (by omega)) (fun hc => ?_) (fun hc => ?_)
            ·
              refine xg_step rfl rfl (fun k => rfl) ?_
              refine xg_step rfl rfl (fun k => rfl) ?_
              refine xg_step rfl rfl (fun k => rfl) ?_
              refine zg_iret rfl rfl (zfitZ (by omega)) ?_
              exact zl1 (by simp only [zVN] ; first | (left; omega) | (right; left; omega) | (right; right; left; omega) | (right; right; right; left; assumption) | (right; right; right; right; left; assumption) | (right; right; right; right; right; assumption))
            ·
              refine xg_step rfl rfl (fun k => rfl) ?_
              refine xg_step rfl rfl (fun k => rfl) ?_
              refine zg_iret rfl rfl (zfitZ (by omega)) ?_
              exact zl0 (fun q => by rcases q with q | q | q | q | q | q <;> first | omega | contradiction)
          ·
            refine xg_step rfl rfl (fun k => rfl) ?_
            refine xg_step rfl rfl (fun k => rfl) ?_
            refine xg_step rfl rfl (fun k => rfl) ?_
            refine zg_iret rfl rfl (zfitZ (by omega)) ?_
            exact zl1 (by simp only [zVN] ; first | (left; omega) | (right; left; omega) | (right; right; left; omega) | (right; right; right; left; assumption) | (right; right; right; right; left; assumption) | (right; right; right; right; right; assumption))
        ·
          refine xg_step rfl rfl (fun k => rfl) ?_
          refine xg_step rfl rfl (fun k => rfl) ?_
          refine xg_step rfl rfl (fun k => rfl) ?_
          refine zg_iret rfl rfl (zfitZ (by omega)) ?_
          exact zl1 (by simp only [zVN] ; first | (left; omega) | (right; left; omega) | (right; right; left; omega) | (right; right; right; left; assumption) | (right; right; right; right; left; assumption) | (right; right; right; right; right; assumption))
  ·
    refine xg_step rfl rfl (fun k => rfl) ?_
    refine xg_step rfl rfl (fun k => rfl) ?_
    refine zg_iret rfl rfl (zfitZ (by omega)) ?_
    exact zl1 (by simp only [zVN] ; first | (left; omega) | (right; left; omega) | (right; right; left; omega) | (right; right; right; left; assumption) | (right; right; right; right; left; assumption) | (right; right; right; right; right; assumption))
theorem zq_110' {d : Nat} {A B C : ZM} (hB : zRg B) (hC : zRg C) (hL : zLI B C) {s k : Int} (hs : 0 ≤ s ∧ s < 3) (hk : 1 ≤ k ∧ k ≤ B (44 + 2 * s) 1) (h3 : B (45 + 2 * s) (k * 5 + 0) = 3) : XR (d + 3) 110 [.ref 107, zci s, zci k] (zhp A (zmg B C)) (some (zci (zb2 (¬ B (45 + 2 * s) (k * 5 + 4) = 0))), zhp A (zmg B C)) := by
  have h := zq_110 (d := d) (A := A) hB hC hL hs hk
  rw [← zb2_iff ((hL.2.1 s k hs hk).2.1 h3)] at h
  exact h
set_option maxRecDepth 10000 in
theorem zql_111 {d : Nat} {A B C : ZM} (hB : zRg B) (hC : zRg C) (hL : zLI B C) {w k : Int} (hw : 1 ≤ w ∧ w < 31) (hk : 1 ≤ k ∧ k ≤ B (44 + 2 * (w % 3)) 1 + 1) (hn : B 10 w = 0 ∨ k ≤ B 10 w) {r : Option Value × XS} (hr : r = (some (zci (B 10 w)), zhp A (zmg B C))) : XG (d + 4) 111 12 [some (.ref 107), some (zci (w)), some (zci (w % 3)), some (zci (k))] [] (zhp A (zmg B C)) r := by
  obtain ⟨hcN, hLm, h10, hLo⟩ := id hL
  have hcs := hcN (w % 3) (by omega)
  obtain ⟨hO1, hO2, hO3⟩ := hLo w hw
  have hst : ¬ (B (45 + 2 * (w % 3)) (k * 5 + 0) = 3 ∧ B (45 + 2 * (w % 3)) (k * 5 + 1) = w ∧ B (45 + 2 * (w % 3)) (k * 5 + 4) = 0) → B 10 w = 0 ∨ k + 1 ≤ B 10 w := fun hq => by
    rcases hn with q | q
    · exact .inl q
    · refine .inr ?_
      have e : k ≠ B 10 w := fun e => by
        obtain ⟨e1, e2, e3⟩ := hO3 (by omega)
        rw [← e] at e1 e2 e3
        exact hq ⟨e1, e2, e3⟩
      omega
  refine xg_step rfl rfl (fun k => rfl) ?_
  refine xg_step rfl rfl (fun k => rfl) ?_
  refine xg_get rfl rfl (zha (by decide)) zc_RefM rfl rfl ?_
  refine xg_step rfl rfl (fun k => rfl) ?_
  refine zg_ald (.inl ⟨rfl, rfl⟩) (zha (by decide)) zc_r_many (by decide) ⟨by omega, by omega⟩ (zvB (zk_many (by omega)) (by omega)) ?_
  refine zg_gt rfl rfl (fun x y k => rfl) (by first | assumption | exact hA _ _ | exact hB _ _ | exact hC _ _ | exact zrg_max (by assumption) (hA _ _) | (constructor <;> omega)) (by first | assumption | exact hA _ _ | exact hB _ _ | exact hC _ _ | exact zrg_max (by assumption) (hA _ _) | (constructor <;> omega)) (fun hc => ?_) (fun hc => ?_)
  ·
    refine xg_step rfl rfl (fun k => rfl) ?_
    refine zg_iret rfl rfl zfitI ?_
    (rw [hr, show B 10 w = 0 by omega])
  ·
    refine xg_step rfl rfl (fun k => rfl) ?_
    refine xg_get rfl rfl (zha (by decide)) zc_RefM rfl rfl ?_
    refine xg_step rfl rfl (fun k => rfl) ?_
    refine xg_step rfl rfl (fun k => rfl) ?_
    refine zg_csi rfl rfl (by decide) rfl rfl (Nat.le_of_ble_eq_true rfl) rfl (zq_106 hB hC) ?_
    refine zg_ald (.inl ⟨rfl, rfl⟩) (zha (by decide)) zc_r_kinds (by decide) ⟨by omega, by omega⟩ (zvB (zk_kinds (by omega) (by omega)) (by omega)) ?_
    refine xg_step rfl rfl (fun k => rfl) ?_
    refine zg_eq rfl rfl (fun x y k => rfl) (by first | assumption | exact hA _ _ | exact hB _ _ | exact hC _ _ | exact zrg_max (by assumption) (hA _ _) | (constructor <;> omega)) (by first | assumption | exact hA _ _ | exact hB _ _ | exact hC _ _ | exact zrg_max (by assumption) (hA _ _) | (constructor <;> omega)) (fun hc => ?_) (fun hc => ?_)
    ·
      refine xg_step rfl rfl (fun k => rfl) ?_
      refine xg_get rfl rfl (zha (by decide)) zc_RefM rfl rfl ?_
      refine xg_step rfl rfl (fun k => rfl) ?_
      refine xg_step rfl rfl (fun k => rfl) ?_
      refine zg_csi rfl rfl (by decide) rfl rfl (Nat.le_of_ble_eq_true rfl) rfl (zq_106 hB hC) ?_
      refine zg_ald (.inl ⟨rfl, rfl⟩) (zha (by decide)) zc_r_views (by decide) ⟨by omega, by omega⟩ (zvB (zk_views (by omega) (by omega)) (by omega)) ?_
      refine xg_step rfl rfl (fun k => rfl) ?_
      refine zg_eq rfl rfl (fun x y k => rfl) (by first | assumption | exact hA _ _ | exact hB _ _ | exact hC _ _ | exact zrg_max (by assumption) (hA _ _) | (constructor <;> omega)) (by first | assumption | exact hA _ _ | exact hB _ _ | exact hC _ _ | exact zrg_max (by assumption) (hA _ _) | (constructor <;> omega)) (fun hc => ?_) (fun hc => ?_)
      ·
        refine xg_step rfl rfl (fun k => rfl) ?_
        refine xg_step rfl rfl (fun k => rfl) ?_
        refine xg_step rfl rfl (fun k => rfl) ?_
        refine zg_cvb rfl rfl rfl (Nat.le_of_ble_eq_true rfl) (zha (by decide)) zc_RefM rfl rfl (zq_110' hB hC hL (by omega) (by omega) (by assumption)) (fun hc => ?_) (fun hc => ?_)
        ·
          refine xg_step rfl rfl (fun k => rfl) ?_
          refine zg_inc rfl rfl rfl rfl ?_
          refine xg_step rfl rfl (fun k => rfl) ?_
          exact zql_111 hB hC hL hw (k := k + 1) (by omega) (hst (by omega)) hr
        ·
          refine xg_step rfl rfl (fun k => rfl) ?_
          refine xg_step rfl rfl (fun k => rfl) ?_
          refine zg_iret rfl rfl zfitI ?_
          (rw [hr, show B 10 w = k from by rcases hn with q | q; exact (hO2 k (by omega) (.inl q) ⟨by assumption, by assumption, by omega⟩).elim; exact Classical.byContradiction (fun e => hO2 k (by omega) (.inr (by omega)) ⟨by assumption, by assumption, by omega⟩)])
      ·
        refine zg_inc rfl rfl rfl rfl ?_
        refine xg_step rfl rfl (fun k => rfl) ?_
        exact zql_111 hB hC hL hw (k := k + 1) (by omega) (hst (by omega)) hr
    ·
      refine zg_inc rfl rfl rfl rfl ?_
      refine xg_step rfl rfl (fun k => rfl) ?_
      exact zql_111 hB hC hL hw (k := k + 1) (by omega) (hst (by omega)) hr
termination_by (B (44 + 2 * (w % 3)) 1 + 1 - k).toNat
decreasing_by all_goals omega
set_option maxRecDepth 10000 in
theorem zq_111 {d : Nat} {A B C : ZM} (hB : zRg B) (hC : zRg C) (hL : zLI B C) {w : Int} (hw : 0 ≤ w ∧ w < 31) : XR (d + 5) 111 [.ref 107, zci (w)] (zhp A (zmg B C)) (some (zci (B 10 w)), zhp A (zmg B C)) := by
  obtain ⟨hcN, hLm, h10, hLo⟩ := id hL
  have hcs := hcN (w % 3) (by omega)
  have hO1 : 1 ≤ w → 0 ≤ B 10 w := fun q => (hLo w (by omega)).1.1
  refine XR.of (Nat.le_of_ble_eq_true rfl) rfl ?_
  refine xg_step rfl rfl (fun k => rfl) ?_
  refine xg_step rfl rfl (fun k => rfl) ?_
  refine zg_rem rfl (by omega) ?_
  refine xg_step rfl rfl (fun k => rfl) ?_
  refine xg_step rfl rfl (fun k => rfl) ?_
  refine zg_eq0 rfl rfl (fun x k => rfl) (by first | assumption | exact hA _ _ | exact hB _ _ | exact hC _ _ | exact zrg_max (by assumption) (hA _ _) | (constructor <;> omega)) (fun hc => ?_) (fun hc => ?_)
  ·
    refine xg_step rfl rfl (fun k => rfl) ?_
    refine zg_iret rfl rfl zfitI ?_
    (rw [show w = 0 by assumption, hL.2.2.1])
  ·
    refine xg_step rfl rfl (fun k => rfl) ?_
    refine xg_step rfl rfl (fun k => rfl) ?_
    exact zql_111 hB hC hL (by omega) (k := 1) (by omega) (by omega) rfl
