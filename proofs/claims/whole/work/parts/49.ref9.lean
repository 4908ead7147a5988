/-! the reference: reading a CHANGE -/
def zch (C : ZM) (t s k w : Int) : ZM := if C 142 ((t * 31 + w) * 3 + s) = 0 then zup (zup (zup C 107 40 (C 107 40 + 1)) 142 ((t * 31 + w) * 3 + s) (C 107 40 + 1)) 143 ((t * 31 + w) * 3 + s) k else C
theorem znote_gh {A B C : ZM} {t v p : Int} (ht : 0 ≤ t ∧ t < 3) : zhp A (zmg (znote B t v p) C) = zhp A (zmg B C) := zgh3 (fun a i hv hn => by
  rw [znote_row (fun e => by unfold zfm2 at hv; omega) (fun e => by unfold zfm2 at hv; omega)])
abbrev zc2 (C : ZM) (t w i j l f g : Int) : Prop := f % 3 = i ∧ g % 3 = j ∧ 0 < C 142 ((t * 31 + w) * 3 + i) ∧ C 142 ((t * 31 + w) * 3 + i) < C 142 ((t * 31 + w) * 3 + j) ∧ (C 142 ((t * 31 + w) * 3 + l) = 0 ∨ C 142 ((t * 31 + w) * 3 + j) < C 142 ((t * 31 + w) * 3 + l)) ∧ C 143 ((t * 31 + w) * 3 + i) = f / 3 ∧ C 143 ((t * 31 + w) * 3 + j) = g / 3
abbrev zc1 (C : ZM) (t w i j l f : Int) : Prop := f % 3 = i ∧ 0 < C 142 ((t * 31 + w) * 3 + i) ∧ C 142 ((t * 31 + w) * 3 + j) = 0 ∧ C 142 ((t * 31 + w) * 3 + l) = 0
/-- the first two CHANGES of a view that a server read, told twice -/
def zCh (C : ZM) (t w f g : Int) : Prop := (f = 0 ∧ g = 0 ∧ C 142 ((t * 31 + w) * 3 + 0) = 0 ∧ C 142 ((t * 31 + w) * 3 + 1) = 0 ∧ C 142 ((t * 31 + w) * 3 + 2) = 0) ∨ (f ≠ 0 ∧ g = 0 ∧ (zc1 C t w 0 1 2 f ∨ zc1 C t w 1 0 2 f ∨ zc1 C t w 2 0 1 f)) ∨ (f ≠ 0 ∧ g ≠ 0 ∧ (zc2 C t w 0 1 2 f g ∨ zc2 C t w 0 2 1 f g ∨ zc2 C t w 1 0 2 f g ∨ zc2 C t w 1 2 0 f g ∨ zc2 C t w 2 0 1 f g ∨ zc2 C t w 2 1 0 f g))
set_option maxRecDepth 10000 in
theorem zq_125e {d : Nat} {A B C : ZM} (hB : zRg B) (hC : zRg C) {t s k w : Int} (ht : 0 ≤ t ∧ t < 3) (hs : 0 ≤ s ∧ s < 3) (hk : 1 ≤ k ∧ k ≤ 100) (hw : 0 ≤ w ∧ w < 31) (hrd : 0 ≤ C 107 40 ∧ C 107 40 ≤ 100000) (hvw : zrg (B (56 + 17 * t) 7)) (hc0 : ¬ w = B (56 + 17 * t) 7 ∨ ¬ B (56 + 17 * t) 8 = 0 ∨ ¬ w % 3 = t) : XR (d + 1) 125 [.ref 107, zci (t), zci (s), zci (k), zci (w)] (zhp A (zmg B C)) (none, zhp A (zmg (znote B t w (k * 3 + s)) (zch C t s k w))) := by
  refine XR.of (Nat.le_of_ble_eq_true rfl) rfl ?_
  refine xg_step rfl rfl (fun k => rfl) ?_
  refine zg_bi rfl (by decide) ?_
  refine zg_mul rfl ?_
  refine xg_step rfl rfl (fun k => rfl) ?_
  refine zg_add rfl ?_
  refine xg_step rfl rfl (fun k => rfl) ?_
  refine zg_mul rfl ?_
  refine xg_step rfl rfl (fun k => rfl) ?_
  refine zg_add rfl ?_
  refine xg_step rfl rfl (fun k => rfl) ?_
  refine xg_step rfl rfl (fun k => rfl) ?_
  refine xg_get rfl rfl (zha (by decide)) zc_RefM rfl rfl ?_
  refine xg_step rfl rfl (fun k => rfl) ?_
  refine zg_ald (.inl ⟨rfl, rfl⟩) (zha (by decide)) zc_r_changeRead (by decide) ⟨by omega, by omega⟩ (zvC zk_changeRead (by omega)) ?_
  refine zg_eq0 rfl rfl (fun x k => rfl) (by first | assumption | exact hA _ _ | exact hB _ _ | exact hC _ _ | exact zrg_max (by assumption) (hA _ _) | (constructor <;> omega)) (fun hc => ?_) (fun hc => ?_)
  ·
    refine xg_step rfl rfl (fun k => rfl) ?_
    refine xg_step rfl rfl (fun k => rfl) ?_
    refine xg_get rfl rfl (zha (by decide)) zc_RefM rfl rfl ?_
    refine xg_step rfl rfl (fun k => rfl) ?_
    refine zg_add rfl ?_
    refine zg_put rfl rfl (zha (by decide)) zc_RefM (Nat.le_of_ble_eq_true rfl) rfl zfitI rfl (zhwB zw_RefM_40) ?_
    refine xg_step rfl rfl (fun k => rfl) ?_
    refine xg_get rfl rfl (zha (by decide)) zc_RefM rfl rfl ?_
    refine xg_step rfl rfl (fun k => rfl) ?_
    refine xg_step rfl rfl (fun k => rfl) ?_
    refine zg_geti (x := (C 107 40) + 1) rfl rfl (zha (by decide)) zc_RefM rfl (zup_eq ⟨by omega, by omega⟩) ?_
    refine zg_ast (.inl ⟨rfl, rfl⟩) (zha (by decide)) zc_r_changeRead (by decide) ⟨by omega, by omega⟩ (zhwB (zwC zk_changeRead zw_r_changeRead (by omega))) ?_
    refine xg_step rfl rfl (fun k => rfl) ?_
    refine xg_get rfl rfl (zha (by decide)) zc_RefM rfl rfl ?_
    refine xg_step rfl rfl (fun k => rfl) ?_
    refine xg_step rfl rfl (fun k => rfl) ?_
    refine zg_ast (.inl ⟨rfl, rfl⟩) (zha (by decide)) zc_r_changeNumber (by decide) ⟨by omega, by omega⟩ (zhwB (zwC zk_changeNumber zw_r_changeNumber (by omega))) ?_
    refine xg_step rfl rfl (fun k => rfl) ?_
    refine xg_step rfl rfl (fun k => rfl) ?_
    refine xg_get rfl rfl (zha (by decide)) zc_RefM rfl rfl ?_
    refine xg_step rfl rfl (fun k => rfl) ?_
    refine zg_ald (.inl ⟨rfl, rfl⟩) (zha (by decide)) zc_r_view (by decide) ⟨by omega, by omega⟩ (zvB (zk_view (by omega)) (by omega)) ?_
    refine zg_eq rfl rfl (fun x y k => rfl) (by first | assumption | exact hA _ _ | exact hB _ _ | exact hC _ _ | exact zrg_max (by assumption) (hA _ _) | (constructor <;> omega)) (by first | assumption | exact hA _ _ | exact hB _ _ | exact hC _ _ | exact zrg_max (by assumption) (hA _ _) | (constructor <;> omega)) (fun hc => ?_) (fun hc => ?_)
    ·
      refine xg_step rfl rfl (fun k => rfl) ?_
      refine xg_get rfl rfl (zha (by decide)) zc_RefM rfl rfl ?_
      refine xg_step rfl rfl (fun k => rfl) ?_
      refine zg_ald (.inr ⟨rfl, rfl⟩) (zha (by decide)) zc_r_active (by decide) ⟨by omega, by omega⟩ (zvB (zk_active (by omega)) (by omega)) ?_
      refine zg_eq0 rfl rfl (fun x k => rfl) (by first | assumption | exact hA _ _ | exact hB _ _ | exact hC _ _ | exact zrg_max (by assumption) (hA _ _) | (constructor <;> omega)) (fun hc => ?_) (fun hc => ?_)
      ·
        refine xg_step rfl rfl (fun k => rfl) ?_
        refine xg_step rfl rfl (fun k => rfl) ?_
        refine zg_rem rfl (by omega) ?_
        refine xg_step rfl rfl (fun k => rfl) ?_
        refine zg_eq rfl rfl (fun x y k => rfl) (by first | assumption | exact hA _ _ | exact hB _ _ | exact hC _ _ | exact zrg_max (by assumption) (hA _ _) | (constructor <;> omega)) (by first | assumption | exact hA _ _ | exact hB _ _ | exact hC _ _ | exact zrg_max (by assumption) (hA _ _) | (constructor <;> omega)) (fun hc => ?_) (fun hc => ?_)
        ·
          exact (by omega : False).elim
        ·
          refine zg_ret rfl rfl ?_
          (rw [znote_gh ht]; refine congrArg (fun m => (none, zhp A (zmg B m))) ?_; unfold zch; first | rw [if_pos (by omega)] | rw [if_neg (by omega)])
      ·
        refine zg_ret rfl rfl ?_
        (rw [znote_gh ht]; refine congrArg (fun m => (none, zhp A (zmg B m))) ?_; unfold zch; first | rw [if_pos (by omega)] | rw [if_neg (by omega)])
    ·
      refine zg_ret rfl rfl ?_
      (rw [znote_gh ht]; refine congrArg (fun m => (none, zhp A (zmg B m))) ?_; unfold zch; first | rw [if_pos (by omega)] | rw [if_neg (by omega)])
  ·
    refine xg_step rfl rfl (fun k => rfl) ?_
    refine xg_step rfl rfl (fun k => rfl) ?_
    refine xg_get rfl rfl (zha (by decide)) zc_RefM rfl rfl ?_
    refine xg_step rfl rfl (fun k => rfl) ?_
    refine zg_ald (.inl ⟨rfl, rfl⟩) (zha (by decide)) zc_r_view (by decide) ⟨by omega, by omega⟩ (zvB (zk_view (by omega)) (by omega)) ?_
    refine zg_eq rfl rfl (fun x y k => rfl) (by first | assumption | exact hA _ _ | exact hB _ _ | exact hC _ _ | exact zrg_max (by assumption) (hA _ _) | (constructor <;> omega)) (by first | assumption | exact hA _ _ | exact hB _ _ | exact hC _ _ | exact zrg_max (by assumption) (hA _ _) | (constructor <;> omega)) (fun hc => ?_) (fun hc => ?_)
    ·
      refine xg_step rfl rfl (fun k => rfl) ?_
      refine xg_get rfl rfl (zha (by decide)) zc_RefM rfl rfl ?_
      refine xg_step rfl rfl (fun k => rfl) ?_
      refine zg_ald (.inr ⟨rfl, rfl⟩) (zha (by decide)) zc_r_active (by decide) ⟨by omega, by omega⟩ (zvB (zk_active (by omega)) (by omega)) ?_
      refine zg_eq0 rfl rfl (fun x k => rfl) (by first | assumption | exact hA _ _ | exact hB _ _ | exact hC _ _ | exact zrg_max (by assumption) (hA _ _) | (constructor <;> omega)) (fun hc => ?_) (fun hc => ?_)
      ·
        refine xg_step rfl rfl (fun k => rfl) ?_
        refine xg_step rfl rfl (fun k => rfl) ?_
        refine zg_rem rfl (by omega) ?_
        refine xg_step rfl rfl (fun k => rfl) ?_
        refine zg_eq rfl rfl (fun x y k => rfl) (by first | assumption | exact hA _ _ | exact hB _ _ | exact hC _ _ | exact zrg_max (by assumption) (hA _ _) | (constructor <;> omega)) (by first | assumption | exact hA _ _ | exact hB _ _ | exact hC _ _ | exact zrg_max (by assumption) (hA _ _) | (constructor <;> omega)) (fun hc => ?_) (fun hc => ?_)
        ·
          exact (by omega : False).elim
        ·
          refine zg_ret rfl rfl ?_
          (rw [znote_gh ht]; refine congrArg (fun m => (none, zhp A (zmg B m))) ?_; unfold zch; first | rw [if_pos (by omega)] | rw [if_neg (by omega)])
      ·
        refine zg_ret rfl rfl ?_
        (rw [znote_gh ht]; refine congrArg (fun m => (none, zhp A (zmg B m))) ?_; unfold zch; first | rw [if_pos (by omega)] | rw [if_neg (by omega)])
    ·
      refine zg_ret rfl rfl ?_
      (rw [znote_gh ht]; refine congrArg (fun m => (none, zhp A (zmg B m))) ?_; unfold zch; first | rw [if_pos (by omega)] | rw [if_neg (by omega)])
set_option maxRecDepth 10000 in
theorem zm_125_0 {d : Nat} {A B C : ZM} (hB : zRg B) (hC : zRg C) {t s k w c f g : Int} (ht : 0 ≤ t ∧ t < 3) (hw : 0 ≤ w ∧ w < 31) {o6 o7 o8 o9 : Option Value} (h : zc1 C t w 0 1 2 f) : XG (d + 1) 125 81 [some (.ref 107), some (zci t), some (zci s), some (zci k), some (zci w), some (zci c), o6, o7, o8, o9] [] (zhp A (zmg B C)) (none, zhp A (zmg B C)) := by
  obtain ⟨h1, h2, h3, h4⟩ := h
  refine xg_step rfl rfl (fun k => rfl) ?_
  refine xg_step rfl rfl (fun k => rfl) ?_
  refine xg_step rfl rfl (fun k => rfl) ?_
  refine xg_step rfl rfl (fun k => rfl) ?_
  refine xg_step rfl rfl (fun k => rfl) ?_
  refine xg_step rfl rfl (fun k => rfl) ?_
  show XG _ _ 90 [some (.ref 107), some (zci (t)), some (zci (s)), some (zci (k)), some (zci (w)), some (zci (c)), some (zci ((-1))), some (zci ((-1))), some (zci (0)), o9] _ _ _
  refine xg_step rfl rfl (fun k => rfl) ?_
  refine xg_step rfl rfl (fun k => rfl) ?_
  refine xg_step rfl rfl (fun k => rfl) ?_
  refine xg_step rfl rfl (fun k => rfl) ?_
  refine zg_bi rfl (by decide) ?_
  refine zg_mul rfl ?_
  refine xg_step rfl rfl (fun k => rfl) ?_
  refine zg_add rfl ?_
  refine xg_step rfl rfl (fun k => rfl) ?_
  refine zg_mul rfl ?_
  refine xg_step rfl rfl (fun k => rfl) ?_
  show XG _ _ 107 [some (.ref 107), some (zci (t)), some (zci (s)), some (zci (k)), some (zci (w)), some (zci (c)), some (zci ((-1))), some (zci ((-1))), some (zci (0)), some (zci (((t * 31) + w) * 3))] _ _ _
  refine xg_step rfl rfl (fun k => rfl) ?_
  refine xg_get rfl rfl (zha (by decide)) zc_RefM rfl rfl ?_
  refine xg_step rfl rfl (fun k => rfl) ?_
  refine xg_step rfl rfl (fun k => rfl) ?_
  refine zg_add rfl ?_
  refine zg_ald (.inl ⟨rfl, rfl⟩) (zha (by decide)) zc_r_changeRead (by decide) ⟨by omega, by omega⟩ (zvC zk_changeRead (by omega)) ?_
  refine zg_eq0 rfl rfl (fun x k => rfl) (by first | assumption | exact hA _ _ | exact hB _ _ | exact hC _ _ | exact zrg_max (by assumption) (hA _ _) | (constructor <;> omega)) (fun hc => ?_) (fun hc => ?_)
  ·
    exact (by omega : False).elim
  ·
    show XG _ _ 123 [some (.ref 107), some (zci (t)), some (zci (s)), some (zci (k)), some (zci (w)), some (zci (c)), some (zci ((-1))), some (zci ((-1))), some (zci (0)), some (zci (((t * 31) + w) * 3))] _ _ _
    refine xg_step rfl rfl (fun k => rfl) ?_
    refine xg_step rfl rfl (fun k => rfl) ?_
    refine xg_step rfl rfl (fun k => rfl) ?_
    refine xg_step rfl rfl (fun k => rfl) ?_
    refine xg_step rfl rfl (fun k => rfl) ?_
    refine xg_step rfl rfl (fun k => rfl) ?_
    refine xg_step rfl rfl (fun k => rfl) ?_
    show XG _ _ 194 [some (.ref 107), some (zci (t)), some (zci (s)), some (zci (k)), some (zci (w)), some (zci (c)), some (zci (0)), some (zci ((-1))), some (zci (0)), some (zci (((t * 31) + w) * 3))] _ _ _
    refine zg_inc (y := 1) rfl rfl (by decide) rfl ?_
    refine xg_step rfl rfl (fun k => rfl) ?_
    show XG _ _ 90 [some (.ref 107), some (zci (t)), some (zci (s)), some (zci (k)), some (zci (w)), some (zci (c)), some (zci (0)), some (zci ((-1))), some (zci (1)), some (zci (((t * 31) + w) * 3))] _ _ _
    refine xg_step rfl rfl (fun k => rfl) ?_
    refine xg_step rfl rfl (fun k => rfl) ?_
    refine xg_step rfl rfl (fun k => rfl) ?_
    refine xg_step rfl rfl (fun k => rfl) ?_
    refine zg_bi rfl (by decide) ?_
    refine zg_mul rfl ?_
    refine xg_step rfl rfl (fun k => rfl) ?_
    refine zg_add rfl ?_
    refine xg_step rfl rfl (fun k => rfl) ?_
    refine zg_mul rfl ?_
    refine xg_step rfl rfl (fun k => rfl) ?_
    show XG _ _ 107 [some (.ref 107), some (zci (t)), some (zci (s)), some (zci (k)), some (zci (w)), some (zci (c)), some (zci (0)), some (zci ((-1))), some (zci (1)), some (zci (((t * 31) + w) * 3))] _ _ _
    refine xg_step rfl rfl (fun k => rfl) ?_
    refine xg_get rfl rfl (zha (by decide)) zc_RefM rfl rfl ?_
    refine xg_step rfl rfl (fun k => rfl) ?_
    refine xg_step rfl rfl (fun k => rfl) ?_
    refine zg_add rfl ?_
    refine zg_ald (.inl ⟨rfl, rfl⟩) (zha (by decide)) zc_r_changeRead (by decide) ⟨by omega, by omega⟩ (zvC zk_changeRead (by omega)) ?_
    refine zg_eq0 rfl rfl (fun x k => rfl) (by first | assumption | exact hA _ _ | exact hB _ _ | exact hC _ _ | exact zrg_max (by assumption) (hA _ _) | (constructor <;> omega)) (fun hc => ?_) (fun hc => ?_)
    ·
      refine xg_step rfl rfl (fun k => rfl) ?_
      show XG _ _ 194 [some (.ref 107), some (zci (t)), some (zci (s)), some (zci (k)), some (zci (w)), some (zci (c)), some (zci (0)), some (zci ((-1))), some (zci (1)), some (zci (((t * 31) + w) * 3))] _ _ _
      refine zg_inc (y := 2) rfl rfl (by decide) rfl ?_
      refine xg_step rfl rfl (fun k => rfl) ?_
      show XG _ _ 90 [some (.ref 107), some (zci (t)), some (zci (s)), some (zci (k)), some (zci (w)), some (zci (c)), some (zci (0)), some (zci ((-1))), some (zci (2)), some (zci (((t * 31) + w) * 3))] _ _ _
      refine xg_step rfl rfl (fun k => rfl) ?_
      refine xg_step rfl rfl (fun k => rfl) ?_
      refine xg_step rfl rfl (fun k => rfl) ?_
      refine xg_step rfl rfl (fun k => rfl) ?_
      refine zg_bi rfl (by decide) ?_
      refine zg_mul rfl ?_
      refine xg_step rfl rfl (fun k => rfl) ?_
      refine zg_add rfl ?_
      refine xg_step rfl rfl (fun k => rfl) ?_
      refine zg_mul rfl ?_
      refine xg_step rfl rfl (fun k => rfl) ?_
      show XG _ _ 107 [some (.ref 107), some (zci (t)), some (zci (s)), some (zci (k)), some (zci (w)), some (zci (c)), some (zci (0)), some (zci ((-1))), some (zci (2)), some (zci (((t * 31) + w) * 3))] _ _ _
      refine xg_step rfl rfl (fun k => rfl) ?_
      refine xg_get rfl rfl (zha (by decide)) zc_RefM rfl rfl ?_
      refine xg_step rfl rfl (fun k => rfl) ?_
      refine xg_step rfl rfl (fun k => rfl) ?_
      refine zg_add rfl ?_
      refine zg_ald (.inl ⟨rfl, rfl⟩) (zha (by decide)) zc_r_changeRead (by decide) ⟨by omega, by omega⟩ (zvC zk_changeRead (by omega)) ?_
      refine zg_eq0 rfl rfl (fun x k => rfl) (by first | assumption | exact hA _ _ | exact hB _ _ | exact hC _ _ | exact zrg_max (by assumption) (hA _ _) | (constructor <;> omega)) (fun hc => ?_) (fun hc => ?_)
      ·
        refine xg_step rfl rfl (fun k => rfl) ?_
        show XG _ _ 194 [some (.ref 107), some (zci (t)), some (zci (s)), some (zci (k)), some (zci (w)), some (zci (c)), some (zci (0)), some (zci ((-1))), some (zci (2)), some (zci (((t * 31) + w) * 3))] _ _ _
        refine zg_inc (y := 3) rfl rfl (by decide) rfl ?_
        refine xg_step rfl rfl (fun k => rfl) ?_
        show XG _ _ 90 [some (.ref 107), some (zci (t)), some (zci (s)), some (zci (k)), some (zci (w)), some (zci (c)), some (zci (0)), some (zci ((-1))), some (zci (3)), some (zci (((t * 31) + w) * 3))] _ _ _
        refine xg_step rfl rfl (fun k => rfl) ?_
        refine xg_step rfl rfl (fun k => rfl) ?_
        refine xg_step rfl rfl (fun k => rfl) ?_
        show XG _ _ 200 [some (.ref 107), some (zci (t)), some (zci (s)), some (zci (k)), some (zci (w)), some (zci (c)), some (zci (0)), some (zci ((-1))), some (zci (3)), some (zci (((t * 31) + w) * 3))] _ _ _
        refine xg_step rfl rfl (fun k => rfl) ?_
        refine xg_step rfl rfl (fun k => rfl) ?_
        refine zg_ret rfl rfl ?_
        rfl
      ·
        exact (by omega : False).elim
    ·
      exact (by omega : False).elim
set_option maxRecDepth 10000 in
theorem zm_125_1 {d : Nat} {A B C : ZM} (hB : zRg B) (hC : zRg C) {t s k w c f g : Int} (ht : 0 ≤ t ∧ t < 3) (hw : 0 ≤ w ∧ w < 31) {o6 o7 o8 o9 : Option Value} (h : zc1 C t w 1 0 2 f) : XG (d + 1) 125 81 [some (.ref 107), some (zci t), some (zci s), some (zci k), some (zci w), some (zci c), o6, o7, o8, o9] [] (zhp A (zmg B C)) (none, zhp A (zmg B C)) := by
  obtain ⟨h1, h2, h3, h4⟩ := h
  refine xg_step rfl rfl (fun k => rfl) ?_
  refine xg_step rfl rfl (fun k => rfl) ?_
  refine xg_step rfl rfl (fun k => rfl) ?_
  refine xg_step rfl rfl (fun k => rfl) ?_
  refine xg_step rfl rfl (fun k => rfl) ?_
  refine xg_step rfl rfl (fun k => rfl) ?_
  show XG _ _ 90 [some (.ref 107), some (zci (t)), some (zci (s)), some (zci (k)), some (zci (w)), some (zci (c)), some (zci ((-1))), some (zci ((-1))), some (zci (0)), o9] _ _ _
  refine xg_step rfl rfl (fun k => rfl) ?_
  refine xg_step rfl rfl (fun k => rfl) ?_
  refine xg_step rfl rfl (fun k => rfl) ?_
  refine xg_step rfl rfl (fun k => rfl) ?_
  refine zg_bi rfl (by decide) ?_
  refine zg_mul rfl ?_
  refine xg_step rfl rfl (fun k => rfl) ?_
  refine zg_add rfl ?_
  refine xg_step rfl rfl (fun k => rfl) ?_
  refine zg_mul rfl ?_
  refine xg_step rfl rfl (fun k => rfl) ?_
  show XG _ _ 107 [some (.ref 107), some (zci (t)), some (zci (s)), some (zci (k)), some (zci (w)), some (zci (c)), some (zci ((-1))), some (zci ((-1))), some (zci (0)), some (zci (((t * 31) + w) * 3))] _ _ _
  refine xg_step rfl rfl (fun k => rfl) ?_
  refine xg_get rfl rfl (zha (by decide)) zc_RefM rfl rfl ?_
  refine xg_step rfl rfl (fun k => rfl) ?_
  refine xg_step rfl rfl (fun k => rfl) ?_
  refine zg_add rfl ?_
  refine zg_ald (.inl ⟨rfl, rfl⟩) (zha (by decide)) zc_r_changeRead (by decide) ⟨by omega, by omega⟩ (zvC zk_changeRead (by omega)) ?_
  refine zg_eq0 rfl rfl (fun x k => rfl) (by first | assumption | exact hA _ _ | exact hB _ _ | exact hC _ _ | exact zrg_max (by assumption) (hA _ _) | (constructor <;> omega)) (fun hc => ?_) (fun hc => ?_)
  ·
    refine xg_step rfl rfl (fun k => rfl) ?_
    show XG _ _ 194 [some (.ref 107), some (zci (t)), some (zci (s)), some (zci (k)), some (zci (w)), some (zci (c)), some (zci ((-1))), some (zci ((-1))), some (zci (0)), some (zci (((t * 31) + w) * 3))] _ _ _
    refine zg_inc (y := 1) rfl rfl (by decide) rfl ?_
    refine xg_step rfl rfl (fun k => rfl) ?_
    show XG _ _ 90 [some (.ref 107), some (zci (t)), some (zci (s)), some (zci (k)), some (zci (w)), some (zci (c)), some (zci ((-1))), some (zci ((-1))), some (zci (1)), some (zci (((t * 31) + w) * 3))] _ _ _
    refine xg_step rfl rfl (fun k => rfl) ?_
    refine xg_step rfl rfl (fun k => rfl) ?_
    refine xg_step rfl rfl (fun k => rfl) ?_
    refine xg_step rfl rfl (fun k => rfl) ?_
    refine zg_bi rfl (by decide) ?_
    refine zg_mul rfl ?_
    refine xg_step rfl rfl (fun k => rfl) ?_
    refine zg_add rfl ?_
    refine xg_step rfl rfl (fun k => rfl) ?_
    refine zg_mul rfl ?_
    refine xg_step rfl rfl (fun k => rfl) ?_
    show XG _ _ 107 [some (.ref 107), some (zci (t)), some (zci (s)), some (zci (k)), some (zci (w)), some (zci (c)), some (zci ((-1))), some (zci ((-1))), some (zci (1)), some (zci (((t * 31) + w) * 3))] _ _ _
    refine xg_step rfl rfl (fun k => rfl) ?_
    refine xg_get rfl rfl (zha (by decide)) zc_RefM rfl rfl ?_
    refine xg_step rfl rfl (fun k => rfl) ?_
    refine xg_step rfl rfl (fun k => rfl) ?_
    refine zg_add rfl ?_
    refine zg_ald (.inl ⟨rfl, rfl⟩) (zha (by decide)) zc_r_changeRead (by decide) ⟨by omega, by omega⟩ (zvC zk_changeRead (by omega)) ?_
    refine zg_eq0 rfl rfl (fun x k => rfl) (by first | assumption | exact hA _ _ | exact hB _ _ | exact hC _ _ | exact zrg_max (by assumption) (hA _ _) | (constructor <;> omega)) (fun hc => ?_) (fun hc => ?_)
    ·
      exact (by omega : False).elim
    ·
      show XG _ _ 123 [some (.ref 107), some (zci (t)), some (zci (s)), some (zci (k)), some (zci (w)), some (zci (c)), some (zci ((-1))), some (zci ((-1))), some (zci (1)), some (zci (((t * 31) + w) * 3))] _ _ _
      refine xg_step rfl rfl (fun k => rfl) ?_
      refine xg_step rfl rfl (fun k => rfl) ?_
      refine xg_step rfl rfl (fun k => rfl) ?_
      refine xg_step rfl rfl (fun k => rfl) ?_
      refine xg_step rfl rfl (fun k => rfl) ?_
      refine xg_step rfl rfl (fun k => rfl) ?_
      refine xg_step rfl rfl (fun k => rfl) ?_
      show XG _ _ 194 [some (.ref 107), some (zci (t)), some (zci (s)), some (zci (k)), some (zci (w)), some (zci (c)), some (zci (1)), some (zci ((-1))), some (zci (1)), some (zci (((t * 31) + w) * 3))] _ _ _
      refine zg_inc (y := 2) rfl rfl (by decide) rfl ?_
      refine xg_step rfl rfl (fun k => rfl) ?_
      show XG _ _ 90 [some (.ref 107), some (zci (t)), some (zci (s)), some (zci (k)), some (zci (w)), some (zci (c)), some (zci (1)), some (zci ((-1))), some (zci (2)), some (zci (((t * 31) + w) * 3))] _ _ _
      refine xg_step rfl rfl (fun k => rfl) ?_
      refine xg_step rfl rfl (fun k => rfl) ?_
      refine xg_step rfl rfl (fun k => rfl) ?_
      refine xg_step rfl rfl (fun k => rfl) ?_
      refine zg_bi rfl (by decide) ?_
      refine zg_mul rfl ?_
      refine xg_step rfl rfl (fun k => rfl) ?_
      refine zg_add rfl ?_
      refine xg_step rfl rfl (fun k => rfl) ?_
      refine zg_mul rfl ?_
      refine xg_step rfl rfl (fun k => rfl) ?_
      show XG _ _ 107 [some (.ref 107), some (zci (t)), some (zci (s)), some (zci (k)), some (zci (w)), some (zci (c)), some (zci (1)), some (zci ((-1))), some (zci (2)), some (zci (((t * 31) + w) * 3))] _ _ _
      refine xg_step rfl rfl (fun k => rfl) ?_
      refine xg_get rfl rfl (zha (by decide)) zc_RefM rfl rfl ?_
      refine xg_step rfl rfl (fun k => rfl) ?_
      refine xg_step rfl rfl (fun k => rfl) ?_
      refine zg_add rfl ?_
      refine zg_ald (.inl ⟨rfl, rfl⟩) (zha (by decide)) zc_r_changeRead (by decide) ⟨by omega, by omega⟩ (zvC zk_changeRead (by omega)) ?_
      refine zg_eq0 rfl rfl (fun x k => rfl) (by first | assumption | exact hA _ _ | exact hB _ _ | exact hC _ _ | exact zrg_max (by assumption) (hA _ _) | (constructor <;> omega)) (fun hc => ?_) (fun hc => ?_)
      ·
        refine xg_step rfl rfl (fun k => rfl) ?_
        show XG _ _ 194 [some (.ref 107), some (zci (t)), some (zci (s)), some (zci (k)), some (zci (w)), some (zci (c)), some (zci (1)), some (zci ((-1))), some (zci (2)), some (zci (((t * 31) + w) * 3))] _ _ _
        refine zg_inc (y := 3) rfl rfl (by decide) rfl ?_
        refine xg_step rfl rfl (fun k => rfl) ?_
        show XG _ _ 90 [some (.ref 107), some (zci (t)), some (zci (s)), some (zci (k)), some (zci (w)), some (zci (c)), some (zci (1)), some (zci ((-1))), some (zci (3)), some (zci (((t * 31) + w) * 3))] _ _ _
        refine xg_step rfl rfl (fun k => rfl) ?_
        refine xg_step rfl rfl (fun k => rfl) ?_
        refine xg_step rfl rfl (fun k => rfl) ?_
        show XG _ _ 200 [some (.ref 107), some (zci (t)), some (zci (s)), some (zci (k)), some (zci (w)), some (zci (c)), some (zci (1)), some (zci ((-1))), some (zci (3)), some (zci (((t * 31) + w) * 3))] _ _ _
        refine xg_step rfl rfl (fun k => rfl) ?_
        refine xg_step rfl rfl (fun k => rfl) ?_
        refine zg_ret rfl rfl ?_
        rfl
      ·
        exact (by omega : False).elim
  ·
    exact (by omega : False).elim
set_option maxRecDepth 10000 in
theorem zm_125_2 {d : Nat} {A B C : ZM} (hB : zRg B) (hC : zRg C) {t s k w c f g : Int} (ht : 0 ≤ t ∧ t < 3) (hw : 0 ≤ w ∧ w < 31) {o6 o7 o8 o9 : Option Value} (h : zc1 C t w 2 0 1 f) : XG (d + 1) 125 81 [some (.ref 107), some (zci t), some (zci s), some (zci k), some (zci w), some (zci c), o6, o7, o8, o9] [] (zhp A (zmg B C)) (none, zhp A (zmg B C)) := by
  obtain ⟨h1, h2, h3, h4⟩ := h
  refine xg_step rfl rfl (fun k => rfl) ?_
  refine xg_step rfl rfl (fun k => rfl) ?_
  refine xg_step rfl rfl (fun k => rfl) ?_
  refine xg_step rfl rfl (fun k => rfl) ?_
  refine xg_step rfl rfl (fun k => rfl) ?_
  refine xg_step rfl rfl (fun k => rfl) ?_
  show XG _ _ 90 [some (.ref 107), some (zci (t)), some (zci (s)), some (zci (k)), some (zci (w)), some (zci (c)), some (zci ((-1))), some (zci ((-1))), some (zci (0)), o9] _ _ _
  refine xg_step rfl rfl (fun k => rfl) ?_
  refine xg_step rfl rfl (fun k => rfl) ?_
  refine xg_step rfl rfl (fun k => rfl) ?_
  refine xg_step rfl rfl (fun k => rfl) ?_
  refine zg_bi rfl (by decide) ?_
  refine zg_mul rfl ?_
  refine xg_step rfl rfl (fun k => rfl) ?_
  refine zg_add rfl ?_
  refine xg_step rfl rfl (fun k => rfl) ?_
  refine zg_mul rfl ?_
  refine xg_step rfl rfl (fun k => rfl) ?_
  show XG _ _ 107 [some (.ref 107), some (zci (t)), some (zci (s)), some (zci (k)), some (zci (w)), some (zci (c)), some (zci ((-1))), some (zci ((-1))), some (zci (0)), some (zci (((t * 31) + w) * 3))] _ _ _
  refine xg_step rfl rfl (fun k => rfl) ?_
  refine xg_get rfl rfl (zha (by decide)) zc_RefM rfl rfl ?_
  refine xg_step rfl rfl (fun k => rfl) ?_
  refine xg_step rfl rfl (fun k => rfl) ?_
  refine zg_add rfl ?_
  refine zg_ald (.inl ⟨rfl, rfl⟩) (zha (by decide)) zc_r_changeRead (by decide) ⟨by omega, by omega⟩ (zvC zk_changeRead (by omega)) ?_
  refine zg_eq0 rfl rfl (fun x k => rfl) (by first | assumption | exact hA _ _ | exact hB _ _ | exact hC _ _ | exact zrg_max (by assumption) (hA _ _) | (constructor <;> omega)) (fun hc => ?_) (fun hc => ?_)
  ·
    refine xg_step rfl rfl (fun k => rfl) ?_
    show XG _ _ 194 [some (.ref 107), some (zci (t)), some (zci (s)), some (zci (k)), some (zci (w)), some (zci (c)), some (zci ((-1))), some (zci ((-1))), some (zci (0)), some (zci (((t * 31) + w) * 3))] _ _ _
    refine zg_inc (y := 1) rfl rfl (by decide) rfl ?_
    refine xg_step rfl rfl (fun k => rfl) ?_
    show XG _ _ 90 [some (.ref 107), some (zci (t)), some (zci (s)), some (zci (k)), some (zci (w)), some (zci (c)), some (zci ((-1))), some (zci ((-1))), some (zci (1)), some (zci (((t * 31) + w) * 3))] _ _ _
    refine xg_step rfl rfl (fun k => rfl) ?_
    refine xg_step rfl rfl (fun k => rfl) ?_
    refine xg_step rfl rfl (fun k => rfl) ?_
    refine xg_step rfl rfl (fun k => rfl) ?_
    refine zg_bi rfl (by decide) ?_
    refine zg_mul rfl ?_
    refine xg_step rfl rfl (fun k => rfl) ?_
    refine zg_add rfl ?_
    refine xg_step rfl rfl (fun k => rfl) ?_
    refine zg_mul rfl ?_
    refine xg_step rfl rfl (fun k => rfl) ?_
    show XG _ _ 107 [some (.ref 107), some (zci (t)), some (zci (s)), some (zci (k)), some (zci (w)), some (zci (c)), some (zci ((-1))), some (zci ((-1))), some (zci (1)), some (zci (((t * 31) + w) * 3))] _ _ _
    refine xg_step rfl rfl (fun k => rfl) ?_
    refine xg_get rfl rfl (zha (by decide)) zc_RefM rfl rfl ?_
    refine xg_step rfl rfl (fun k => rfl) ?_
    refine xg_step rfl rfl (fun k => rfl) ?_
    refine zg_add rfl ?_
    refine zg_ald (.inl ⟨rfl, rfl⟩) (zha (by decide)) zc_r_changeRead (by decide) ⟨by omega, by omega⟩ (zvC zk_changeRead (by omega)) ?_
    refine zg_eq0 rfl rfl (fun x k => rfl) (by first | assumption | exact hA _ _ | exact hB _ _ | exact hC _ _ | exact zrg_max (by assumption) (hA _ _) | (constructor <;> omega)) (fun hc => ?_) (fun hc => ?_)
    ·
      refine xg_step rfl rfl (fun k => rfl) ?_
      show XG _ _ 194 [some (.ref 107), some (zci (t)), some (zci (s)), some (zci (k)), some (zci (w)), some (zci (c)), some (zci ((-1))), some (zci ((-1))), some (zci (1)), some (zci (((t * 31) + w) * 3))] _ _ _
      refine zg_inc (y := 2) rfl rfl (by decide) rfl ?_
      refine xg_step rfl rfl (fun k => rfl) ?_
      show XG _ _ 90 [some (.ref 107), some (zci (t)), some (zci (s)), some (zci (k)), some (zci (w)), some (zci (c)), some (zci ((-1))), some (zci ((-1))), some (zci (2)), some (zci (((t * 31) + w) * 3))] _ _ _
      refine xg_step rfl rfl (fun k => rfl) ?_
      refine xg_step rfl rfl (fun k => rfl) ?_
      refine xg_step rfl rfl (fun k => rfl) ?_
      refine xg_step rfl rfl (fun k => rfl) ?_
      refine zg_bi rfl (by decide) ?_
      refine zg_mul rfl ?_
      refine xg_step rfl rfl (fun k => rfl) ?_
      refine zg_add rfl ?_
      refine xg_step rfl rfl (fun k => rfl) ?_
      refine zg_mul rfl ?_
      refine xg_step rfl rfl (fun k => rfl) ?_
      show XG _ _ 107 [some (.ref 107), some (zci (t)), some (zci (s)), some (zci (k)), some (zci (w)), some (zci (c)), some (zci ((-1))), some (zci ((-1))), some (zci (2)), some (zci (((t * 31) + w) * 3))] _ _ _
      refine xg_step rfl rfl (fun k => rfl) ?_
      refine xg_get rfl rfl (zha (by decide)) zc_RefM rfl rfl ?_
      refine xg_step rfl rfl (fun k => rfl) ?_
      refine xg_step rfl rfl (fun k => rfl) ?_
      refine zg_add rfl ?_
      refine zg_ald (.inl ⟨rfl, rfl⟩) (zha (by decide)) zc_r_changeRead (by decide) ⟨by omega, by omega⟩ (zvC zk_changeRead (by omega)) ?_
      refine zg_eq0 rfl rfl (fun x k => rfl) (by first | assumption | exact hA _ _ | exact hB _ _ | exact hC _ _ | exact zrg_max (by assumption) (hA _ _) | (constructor <;> omega)) (fun hc => ?_) (fun hc => ?_)
      ·
        exact (by omega : False).elim
      ·
        show XG _ _ 123 [some (.ref 107), some (zci (t)), some (zci (s)), some (zci (k)), some (zci (w)), some (zci (c)), some (zci ((-1))), some (zci ((-1))), some (zci (2)), some (zci (((t * 31) + w) * 3))] _ _ _
        refine xg_step rfl rfl (fun k => rfl) ?_
        refine xg_step rfl rfl (fun k => rfl) ?_
        refine xg_step rfl rfl (fun k => rfl) ?_
        refine xg_step rfl rfl (fun k => rfl) ?_
        refine xg_step rfl rfl (fun k => rfl) ?_
        refine xg_step rfl rfl (fun k => rfl) ?_
        refine xg_step rfl rfl (fun k => rfl) ?_
        show XG _ _ 194 [some (.ref 107), some (zci (t)), some (zci (s)), some (zci (k)), some (zci (w)), some (zci (c)), some (zci (2)), some (zci ((-1))), some (zci (2)), some (zci (((t * 31) + w) * 3))] _ _ _
        refine zg_inc (y := 3) rfl rfl (by decide) rfl ?_
        refine xg_step rfl rfl (fun k => rfl) ?_
        show XG _ _ 90 [some (.ref 107), some (zci (t)), some (zci (s)), some (zci (k)), some (zci (w)), some (zci (c)), some (zci (2)), some (zci ((-1))), some (zci (3)), some (zci (((t * 31) + w) * 3))] _ _ _
        refine xg_step rfl rfl (fun k => rfl) ?_
        refine xg_step rfl rfl (fun k => rfl) ?_
        refine xg_step rfl rfl (fun k => rfl) ?_
        show XG _ _ 200 [some (.ref 107), some (zci (t)), some (zci (s)), some (zci (k)), some (zci (w)), some (zci (c)), some (zci (2)), some (zci ((-1))), some (zci (3)), some (zci (((t * 31) + w) * 3))] _ _ _
        refine xg_step rfl rfl (fun k => rfl) ?_
        refine xg_step rfl rfl (fun k => rfl) ?_
        refine zg_ret rfl rfl ?_
        rfl
    ·
      exact (by omega : False).elim
  ·
    exact (by omega : False).elim
set_option maxRecDepth 10000 in
theorem zm_125_010 {d : Nat} {A B C : ZM} (hB : zRg B) (hC : zRg C) {t s k w c f g : Int} (ht : 0 ≤ t ∧ t < 3) (hw : 0 ≤ w ∧ w < 31) {o6 o7 o8 o9 : Option Value} (h : zc2 C t w 0 1 2 f g) (hz : C 142 ((t * 31 + w) * 3 + 2) = 0) {B2 C2 : ZM} {rv : Int} (hmid : XR (d + 1) 121 [.ref 107, zci t, zci 3, zci w, zci f, zci g] (zhp A (zmg B C)) (some (zci rv), zhp A (zmg B2 C2))) : XG (d + 1) 125 81 [some (.ref 107), some (zci t), some (zci s), some (zci k), some (zci w), some (zci c), o6, o7, o8, o9] [] (zhp A (zmg B C)) (none, zhp A (zmg B2 C2)) := by
  obtain ⟨h1, h2, h3, h4, -, h6, h7⟩ := h
  refine xg_step rfl rfl (fun k => rfl) ?_
  refine xg_step rfl rfl (fun k => rfl) ?_
  refine xg_step rfl rfl (fun k => rfl) ?_
  refine xg_step rfl rfl (fun k => rfl) ?_
  refine xg_step rfl rfl (fun k => rfl) ?_
  refine xg_step rfl rfl (fun k => rfl) ?_
  show XG _ _ 90 [some (.ref 107), some (zci (t)), some (zci (s)), some (zci (k)), some (zci (w)), some (zci (c)), some (zci ((-1))), some (zci ((-1))), some (zci (0)), o9] _ _ _
  refine xg_step rfl rfl (fun k => rfl) ?_
  refine xg_step rfl rfl (fun k => rfl) ?_
  refine xg_step rfl rfl (fun k => rfl) ?_
  refine xg_step rfl rfl (fun k => rfl) ?_
  refine zg_bi rfl (by decide) ?_
  refine zg_mul rfl ?_
  refine xg_step rfl rfl (fun k => rfl) ?_
  refine zg_add rfl ?_
  refine xg_step rfl rfl (fun k => rfl) ?_
  refine zg_mul rfl ?_
  refine xg_step rfl rfl (fun k => rfl) ?_
  show XG _ _ 107 [some (.ref 107), some (zci (t)), some (zci (s)), some (zci (k)), some (zci (w)), some (zci (c)), some (zci ((-1))), some (zci ((-1))), some (zci (0)), some (zci (((t * 31) + w) * 3))] _ _ _
  refine xg_step rfl rfl (fun k => rfl) ?_
  refine xg_get rfl rfl (zha (by decide)) zc_RefM rfl rfl ?_
  refine xg_step rfl rfl (fun k => rfl) ?_
  refine xg_step rfl rfl (fun k => rfl) ?_
  refine zg_add rfl ?_
  refine zg_ald (.inl ⟨rfl, rfl⟩) (zha (by decide)) zc_r_changeRead (by decide) ⟨by omega, by omega⟩ (zvC zk_changeRead (by omega)) ?_
  refine zg_eq0 rfl rfl (fun x k => rfl) (by first | assumption | exact hA _ _ | exact hB _ _ | exact hC _ _ | exact zrg_max (by assumption) (hA _ _) | (constructor <;> omega)) (fun hc => ?_) (fun hc => ?_)
  ·
    exact (by omega : False).elim
  ·
    show XG _ _ 123 [some (.ref 107), some (zci (t)), some (zci (s)), some (zci (k)), some (zci (w)), some (zci (c)), some (zci ((-1))), some (zci ((-1))), some (zci (0)), some (zci (((t * 31) + w) * 3))] _ _ _
    refine xg_step rfl rfl (fun k => rfl) ?_
    refine xg_step rfl rfl (fun k => rfl) ?_
    refine xg_step rfl rfl (fun k => rfl) ?_
    refine xg_step rfl rfl (fun k => rfl) ?_
    refine xg_step rfl rfl (fun k => rfl) ?_
    refine xg_step rfl rfl (fun k => rfl) ?_
    refine xg_step rfl rfl (fun k => rfl) ?_
    show XG _ _ 194 [some (.ref 107), some (zci (t)), some (zci (s)), some (zci (k)), some (zci (w)), some (zci (c)), some (zci (0)), some (zci ((-1))), some (zci (0)), some (zci (((t * 31) + w) * 3))] _ _ _
    refine zg_inc (y := 1) rfl rfl (by decide) rfl ?_
    refine xg_step rfl rfl (fun k => rfl) ?_
    show XG _ _ 90 [some (.ref 107), some (zci (t)), some (zci (s)), some (zci (k)), some (zci (w)), some (zci (c)), some (zci (0)), some (zci ((-1))), some (zci (1)), some (zci (((t * 31) + w) * 3))] _ _ _
    refine xg_step rfl rfl (fun k => rfl) ?_
    refine xg_step rfl rfl (fun k => rfl) ?_
    refine xg_step rfl rfl (fun k => rfl) ?_
    refine xg_step rfl rfl (fun k => rfl) ?_
    refine zg_bi rfl (by decide) ?_
    refine zg_mul rfl ?_
    refine xg_step rfl rfl (fun k => rfl) ?_
    refine zg_add rfl ?_
    refine xg_step rfl rfl (fun k => rfl) ?_
    refine zg_mul rfl ?_
    refine xg_step rfl rfl (fun k => rfl) ?_
    show XG _ _ 107 [some (.ref 107), some (zci (t)), some (zci (s)), some (zci (k)), some (zci (w)), some (zci (c)), some (zci (0)), some (zci ((-1))), some (zci (1)), some (zci (((t * 31) + w) * 3))] _ _ _
    refine xg_step rfl rfl (fun k => rfl) ?_
    refine xg_get rfl rfl (zha (by decide)) zc_RefM rfl rfl ?_
    refine xg_step rfl rfl (fun k => rfl) ?_
    refine xg_step rfl rfl (fun k => rfl) ?_
    refine zg_add rfl ?_
    refine zg_ald (.inl ⟨rfl, rfl⟩) (zha (by decide)) zc_r_changeRead (by decide) ⟨by omega, by omega⟩ (zvC zk_changeRead (by omega)) ?_
    refine zg_eq0 rfl rfl (fun x k => rfl) (by first | assumption | exact hA _ _ | exact hB _ _ | exact hC _ _ | exact zrg_max (by assumption) (hA _ _) | (constructor <;> omega)) (fun hc => ?_) (fun hc => ?_)
    ·
      exact (by omega : False).elim
    ·
      show XG _ _ 123 [some (.ref 107), some (zci (t)), some (zci (s)), some (zci (k)), some (zci (w)), some (zci (c)), some (zci (0)), some (zci ((-1))), some (zci (1)), some (zci (((t * 31) + w) * 3))] _ _ _
      refine xg_step rfl rfl (fun k => rfl) ?_
      refine xg_step rfl rfl (fun k => rfl) ?_
      refine xg_step rfl rfl (fun k => rfl) ?_
      refine xg_get rfl rfl (zha (by decide)) zc_RefM rfl rfl ?_
      refine xg_step rfl rfl (fun k => rfl) ?_
      refine xg_step rfl rfl (fun k => rfl) ?_
      refine zg_add rfl ?_
      refine zg_ald (.inl ⟨rfl, rfl⟩) (zha (by decide)) zc_r_changeRead (by decide) ⟨by omega, by omega⟩ (zvC zk_changeRead (by omega)) ?_
      refine xg_step rfl rfl (fun k => rfl) ?_
      refine xg_get rfl rfl (zha (by decide)) zc_RefM rfl rfl ?_
      refine xg_step rfl rfl (fun k => rfl) ?_
      refine xg_step rfl rfl (fun k => rfl) ?_
      refine zg_add rfl ?_
      refine zg_ald (.inl ⟨rfl, rfl⟩) (zha (by decide)) zc_r_changeRead (by decide) ⟨by omega, by omega⟩ (zvC zk_changeRead (by omega)) ?_
      refine zg_lt rfl rfl (fun x y k => rfl) (by first | assumption | exact hA _ _ | exact hB _ _ | exact hC _ _ | exact zrg_max (by assumption) (hA _ _) | (constructor <;> omega)) (by first | assumption | exact hA _ _ | exact hB _ _ | exact hC _ _ | exact zrg_max (by assumption) (hA _ _) | (constructor <;> omega)) (fun hc => ?_) (fun hc => ?_)
      ·
        exact (by omega : False).elim
      ·
        show XG _ _ 162 [some (.ref 107), some (zci (t)), some (zci (s)), some (zci (k)), some (zci (w)), some (zci (c)), some (zci (0)), some (zci ((-1))), some (zci (1)), some (zci (((t * 31) + w) * 3))] _ _ _
        refine xg_step rfl rfl (fun k => rfl) ?_
        refine xg_step rfl rfl (fun k => rfl) ?_
        refine xg_step rfl rfl (fun k => rfl) ?_
        refine xg_step rfl rfl (fun k => rfl) ?_
        show XG _ _ 194 [some (.ref 107), some (zci (t)), some (zci (s)), some (zci (k)), some (zci (w)), some (zci (c)), some (zci (0)), some (zci (1)), some (zci (1)), some (zci (((t * 31) + w) * 3))] _ _ _
        refine zg_inc (y := 2) rfl rfl (by decide) rfl ?_
        refine xg_step rfl rfl (fun k => rfl) ?_
        show XG _ _ 90 [some (.ref 107), some (zci (t)), some (zci (s)), some (zci (k)), some (zci (w)), some (zci (c)), some (zci (0)), some (zci (1)), some (zci (2)), some (zci (((t * 31) + w) * 3))] _ _ _
        refine xg_step rfl rfl (fun k => rfl) ?_
        refine xg_step rfl rfl (fun k => rfl) ?_
        refine xg_step rfl rfl (fun k => rfl) ?_
        refine xg_step rfl rfl (fun k => rfl) ?_
        refine zg_bi rfl (by decide) ?_
        refine zg_mul rfl ?_
        refine xg_step rfl rfl (fun k => rfl) ?_
        refine zg_add rfl ?_
        refine xg_step rfl rfl (fun k => rfl) ?_
        refine zg_mul rfl ?_
        refine xg_step rfl rfl (fun k => rfl) ?_
        show XG _ _ 107 [some (.ref 107), some (zci (t)), some (zci (s)), some (zci (k)), some (zci (w)), some (zci (c)), some (zci (0)), some (zci (1)), some (zci (2)), some (zci (((t * 31) + w) * 3))] _ _ _
        refine xg_step rfl rfl (fun k => rfl) ?_
        refine xg_get rfl rfl (zha (by decide)) zc_RefM rfl rfl ?_
        refine xg_step rfl rfl (fun k => rfl) ?_
        refine xg_step rfl rfl (fun k => rfl) ?_
        refine zg_add rfl ?_
        refine zg_ald (.inl ⟨rfl, rfl⟩) (zha (by decide)) zc_r_changeRead (by decide) ⟨by omega, by omega⟩ (zvC zk_changeRead (by omega)) ?_
        refine zg_eq0 rfl rfl (fun x k => rfl) (by first | assumption | exact hA _ _ | exact hB _ _ | exact hC _ _ | exact zrg_max (by assumption) (hA _ _) | (constructor <;> omega)) (fun hc => ?_) (fun hc => ?_)
        ·
          refine xg_step rfl rfl (fun k => rfl) ?_
          show XG _ _ 194 [some (.ref 107), some (zci (t)), some (zci (s)), some (zci (k)), some (zci (w)), some (zci (c)), some (zci (0)), some (zci (1)), some (zci (2)), some (zci (((t * 31) + w) * 3))] _ _ _
          refine zg_inc (y := 3) rfl rfl (by decide) rfl ?_
          refine xg_step rfl rfl (fun k => rfl) ?_
          show XG _ _ 90 [some (.ref 107), some (zci (t)), some (zci (s)), some (zci (k)), some (zci (w)), some (zci (c)), some (zci (0)), some (zci (1)), some (zci (3)), some (zci (((t * 31) + w) * 3))] _ _ _
          refine xg_step rfl rfl (fun k => rfl) ?_
          refine xg_step rfl rfl (fun k => rfl) ?_
          refine xg_step rfl rfl (fun k => rfl) ?_
          show XG _ _ 200 [some (.ref 107), some (zci (t)), some (zci (s)), some (zci (k)), some (zci (w)), some (zci (c)), some (zci (0)), some (zci (1)), some (zci (3)), some (zci (((t * 31) + w) * 3))] _ _ _
          refine xg_step rfl rfl (fun k => rfl) ?_
          refine xg_step rfl rfl (fun k => rfl) ?_
          refine xg_step rfl rfl (fun k => rfl) ?_
          refine zg_bi rfl (by decide) ?_
          refine zg_mul rfl ?_
          refine xg_step rfl rfl (fun k => rfl) ?_
          refine zg_add rfl ?_
          refine xg_step rfl rfl (fun k => rfl) ?_
          refine zg_mul rfl ?_
          refine xg_step rfl rfl (fun k => rfl) ?_
          show XG _ _ 217 [some (.ref 107), some (zci (t)), some (zci (s)), some (zci (k)), some (zci (w)), some (zci (c)), some (zci (0)), some (zci (1)), some (zci (((t * 31) + w) * 3)), some (zci (((t * 31) + w) * 3))] _ _ _
          refine xg_step rfl rfl (fun k => rfl) ?_
          refine xg_step rfl rfl (fun k => rfl) ?_
          refine xg_step rfl rfl (fun k => rfl) ?_
          refine xg_step rfl rfl (fun k => rfl) ?_
          refine xg_step rfl rfl (fun k => rfl) ?_
          refine xg_step rfl rfl (fun k => rfl) ?_
          refine xg_get rfl rfl (zha (by decide)) zc_RefM rfl rfl ?_
          refine xg_step rfl rfl (fun k => rfl) ?_
          refine xg_step rfl rfl (fun k => rfl) ?_
          refine zg_add rfl ?_
          refine zg_ald (.inl ⟨rfl, rfl⟩) (zha (by decide)) zc_r_changeNumber (by decide) ⟨by omega, by omega⟩ (zvC zk_changeNumber (by omega)) ?_
          refine zg_mul rfl ?_
          refine xg_step rfl rfl (fun k => rfl) ?_
          refine zg_add rfl ?_
          refine xg_step rfl rfl (fun k => rfl) ?_
          refine xg_step rfl rfl (fun k => rfl) ?_
          refine xg_get rfl rfl (zha (by decide)) zc_RefM rfl rfl ?_
          refine xg_step rfl rfl (fun k => rfl) ?_
          refine xg_step rfl rfl (fun k => rfl) ?_
          refine zg_add rfl ?_
          refine zg_ald (.inl ⟨rfl, rfl⟩) (zha (by decide)) zc_r_changeNumber (by decide) ⟨by omega, by omega⟩ (zvC zk_changeNumber (by omega)) ?_
          refine zg_mul rfl ?_
          refine xg_step rfl rfl (fun k => rfl) ?_
          refine zg_add rfl ?_
          rw [show (3 * (C 143 ((((t * 31) + w) * 3) + 0))) + 0 = f from by omega, show (3 * (C 143 ((((t * 31) + w) * 3) + 1))) + 1 = g from by omega]
          refine zg_cvi rfl rfl rfl (Nat.le_of_ble_eq_true rfl) (zha (by decide)) zc_RefM rfl rfl hmid ?_
          refine xg_step rfl rfl (fun k => rfl) ?_
          exact zg_ret rfl rfl rfl
        ·
          exact (by omega : False).elim
set_option maxRecDepth 10000 in
theorem zm_125_011 {d : Nat} {A B C : ZM} (hB : zRg B) (hC : zRg C) {t s k w c f g : Int} (ht : 0 ≤ t ∧ t < 3) (hw : 0 ≤ w ∧ w < 31) {o6 o7 o8 o9 : Option Value} (h : zc2 C t w 0 1 2 f g) (hz : C 142 ((t * 31 + w) * 3 + 1) < C 142 ((t * 31 + w) * 3 + 2)) {B2 C2 : ZM} {rv : Int} (hmid : XR (d + 1) 121 [.ref 107, zci t, zci 3, zci w, zci f, zci g] (zhp A (zmg B C)) (some (zci rv), zhp A (zmg B2 C2))) : XG (d + 1) 125 81 [some (.ref 107), some (zci t), some (zci s), some (zci k), some (zci w), some (zci c), o6, o7, o8, o9] [] (zhp A (zmg B C)) (none, zhp A (zmg B2 C2)) := by
  obtain ⟨h1, h2, h3, h4, -, h6, h7⟩ := h
  refine xg_step rfl rfl (fun k => rfl) ?_
  refine xg_step rfl rfl (fun k => rfl) ?_
  refine xg_step rfl rfl (fun k => rfl) ?_
  refine xg_step rfl rfl (fun k => rfl) ?_
  refine xg_step rfl rfl (fun k => rfl) ?_
  refine xg_step rfl rfl (fun k => rfl) ?_
  show XG _ _ 90 [some (.ref 107), some (zci (t)), some (zci (s)), some (zci (k)), some (zci (w)), some (zci (c)), some (zci ((-1))), some (zci ((-1))), some (zci (0)), o9] _ _ _
  refine xg_step rfl rfl (fun k => rfl) ?_
  refine xg_step rfl rfl (fun k => rfl) ?_
  refine xg_step rfl rfl (fun k => rfl) ?_
  refine xg_step rfl rfl (fun k => rfl) ?_
  refine zg_bi rfl (by decide) ?_
  refine zg_mul rfl ?_
  refine xg_step rfl rfl (fun k => rfl) ?_
  refine zg_add rfl ?_
  refine xg_step rfl rfl (fun k => rfl) ?_
  refine zg_mul rfl ?_
  refine xg_step rfl rfl (fun k => rfl) ?_
  show XG _ _ 107 [some (.ref 107), some (zci (t)), some (zci (s)), some (zci (k)), some (zci (w)), some (zci (c)), some (zci ((-1))), some (zci ((-1))), some (zci (0)), some (zci (((t * 31) + w) * 3))] _ _ _
  refine xg_step rfl rfl (fun k => rfl) ?_
  refine xg_get rfl rfl (zha (by decide)) zc_RefM rfl rfl ?_
  refine xg_step rfl rfl (fun k => rfl) ?_
  refine xg_step rfl rfl (fun k => rfl) ?_
  refine zg_add rfl ?_
  refine zg_ald (.inl ⟨rfl, rfl⟩) (zha (by decide)) zc_r_changeRead (by decide) ⟨by omega, by omega⟩ (zvC zk_changeRead (by omega)) ?_
  refine zg_eq0 rfl rfl (fun x k => rfl) (by first | assumption | exact hA _ _ | exact hB _ _ | exact hC _ _ | exact zrg_max (by assumption) (hA _ _) | (constructor <;> omega)) (fun hc => ?_) (fun hc => ?_)
  ·
    exact (by omega : False).elim
  ·
    show XG _ _ 123 [some (.ref 107), some (zci (t)), some (zci (s)), some (zci (k)), some (zci (w)), some (zci (c)), some (zci ((-1))), some (zci ((-1))), some (zci (0)), some (zci (((t * 31) + w) * 3))] _ _ _
    refine xg_step rfl rfl (fun k => rfl) ?_
    refine xg_step rfl rfl (fun k => rfl) ?_
    refine xg_step rfl rfl (fun k => rfl) ?_
    refine xg_step rfl rfl (fun k => rfl) ?_
    refine xg_step rfl rfl (fun k => rfl) ?_
    refine xg_step rfl rfl (fun k => rfl) ?_
    refine xg_step rfl rfl (fun k => rfl) ?_
    show XG _ _ 194 [some (.ref 107), some (zci (t)), some (zci (s)), some (zci (k)), some (zci (w)), some (zci (c)), some (zci (0)), some (zci ((-1))), some (zci (0)), some (zci (((t * 31) + w) * 3))] _ _ _
    refine zg_inc (y := 1) rfl rfl (by decide) rfl ?_
    refine xg_step rfl rfl (fun k => rfl) ?_
    show XG _ _ 90 [some (.ref 107), some (zci (t)), some (zci (s)), some (zci (k)), some (zci (w)), some (zci (c)), some (zci (0)), some (zci ((-1))), some (zci (1)), some (zci (((t * 31) + w) * 3))] _ _ _
    refine xg_step rfl rfl (fun k => rfl) ?_
    refine xg_step rfl rfl (fun k => rfl) ?_
    refine xg_step rfl rfl (fun k => rfl) ?_
    refine xg_step rfl rfl (fun k => rfl) ?_
    refine zg_bi rfl (by decide) ?_
    refine zg_mul rfl ?_
    refine xg_step rfl rfl (fun k => rfl) ?_
    refine zg_add rfl ?_
    refine xg_step rfl rfl (fun k => rfl) ?_
    refine zg_mul rfl ?_
    refine xg_step rfl rfl (fun k => rfl) ?_
    show XG _ _ 107 [some (.ref 107), some (zci (t)), some (zci (s)), some (zci (k)), some (zci (w)), some (zci (c)), some (zci (0)), some (zci ((-1))), some (zci (1)), some (zci (((t * 31) + w) * 3))] _ _ _
    refine xg_step rfl rfl (fun k => rfl) ?_
    refine xg_get rfl rfl (zha (by decide)) zc_RefM rfl rfl ?_
    refine xg_step rfl rfl (fun k => rfl) ?_
    refine xg_step rfl rfl (fun k => rfl) ?_
    refine zg_add rfl ?_
    refine zg_ald (.inl ⟨rfl, rfl⟩) (zha (by decide)) zc_r_changeRead (by decide) ⟨by omega, by omega⟩ (zvC zk_changeRead (by omega)) ?_
    refine zg_eq0 rfl rfl (fun x k => rfl) (by first | assumption | exact hA _ _ | exact hB _ _ | exact hC _ _ | exact zrg_max (by assumption) (hA _ _) | (constructor <;> omega)) (fun hc => ?_) (fun hc => ?_)
    ·
      exact (by omega : False).elim
    ·
      show XG _ _ 123 [some (.ref 107), some (zci (t)), some (zci (s)), some (zci (k)), some (zci (w)), some (zci (c)), some (zci (0)), some (zci ((-1))), some (zci (1)), some (zci (((t * 31) + w) * 3))] _ _ _
      refine xg_step rfl rfl (fun k => rfl) ?_
      refine xg_step rfl rfl (fun k => rfl) ?_
      refine xg_step rfl rfl (fun k => rfl) ?_
      refine xg_get rfl rfl (zha (by decide)) zc_RefM rfl rfl ?_
      refine xg_step rfl rfl (fun k => rfl) ?_
      refine xg_step rfl rfl (fun k => rfl) ?_
      refine zg_add rfl ?_
      refine zg_ald (.inl ⟨rfl, rfl⟩) (zha (by decide)) zc_r_changeRead (by decide) ⟨by omega, by omega⟩ (zvC zk_changeRead (by omega)) ?_
      refine xg_step rfl rfl (fun k => rfl) ?_
      refine xg_get rfl rfl (zha (by decide)) zc_RefM rfl rfl ?_
      refine xg_step rfl rfl (fun k => rfl) ?_
      refine xg_step rfl rfl (fun k => rfl) ?_
      refine zg_add rfl ?_
      refine zg_ald (.inl ⟨rfl, rfl⟩) (zha (by decide)) zc_r_changeRead (by decide) ⟨by omega, by omega⟩ (zvC zk_changeRead (by omega)) ?_
      refine zg_lt rfl rfl (fun x y k => rfl) (by first | assumption | exact hA _ _ | exact hB _ _ | exact hC _ _ | exact zrg_max (by assumption) (hA _ _) | (constructor <;> omega)) (by first | assumption | exact hA _ _ | exact hB _ _ | exact hC _ _ | exact zrg_max (by assumption) (hA _ _) | (constructor <;> omega)) (fun hc => ?_) (fun hc => ?_)
      ·
        exact (by omega : False).elim
      ·
        show XG _ _ 162 [some (.ref 107), some (zci (t)), some (zci (s)), some (zci (k)), some (zci (w)), some (zci (c)), some (zci (0)), some (zci ((-1))), some (zci (1)), some (zci (((t * 31) + w) * 3))] _ _ _
        refine xg_step rfl rfl (fun k => rfl) ?_
        refine xg_step rfl rfl (fun k => rfl) ?_
        refine xg_step rfl rfl (fun k => rfl) ?_
        refine xg_step rfl rfl (fun k => rfl) ?_
        show XG _ _ 194 [some (.ref 107), some (zci (t)), some (zci (s)), some (zci (k)), some (zci (w)), some (zci (c)), some (zci (0)), some (zci (1)), some (zci (1)), some (zci (((t * 31) + w) * 3))] _ _ _
        refine zg_inc (y := 2) rfl rfl (by decide) rfl ?_
        refine xg_step rfl rfl (fun k => rfl) ?_
        show XG _ _ 90 [some (.ref 107), some (zci (t)), some (zci (s)), some (zci (k)), some (zci (w)), some (zci (c)), some (zci (0)), some (zci (1)), some (zci (2)), some (zci (((t * 31) + w) * 3))] _ _ _
        refine xg_step rfl rfl (fun k => rfl) ?_
        refine xg_step rfl rfl (fun k => rfl) ?_
        refine xg_step rfl rfl (fun k => rfl) ?_
        refine xg_step rfl rfl (fun k => rfl) ?_
        refine zg_bi rfl (by decide) ?_
        refine zg_mul rfl ?_
        refine xg_step rfl rfl (fun k => rfl) ?_
        refine zg_add rfl ?_
        refine xg_step rfl rfl (fun k => rfl) ?_
        refine zg_mul rfl ?_
        refine xg_step rfl rfl (fun k => rfl) ?_
        show XG _ _ 107 [some (.ref 107), some (zci (t)), some (zci (s)), some (zci (k)), some (zci (w)), some (zci (c)), some (zci (0)), some (zci (1)), some (zci (2)), some (zci (((t * 31) + w) * 3))] _ _ _
        refine xg_step rfl rfl (fun k => rfl) ?_
        refine xg_get rfl rfl (zha (by decide)) zc_RefM rfl rfl ?_
        refine xg_step rfl rfl (fun k => rfl) ?_
        refine xg_step rfl rfl (fun k => rfl) ?_
        refine zg_add rfl ?_
        refine zg_ald (.inl ⟨rfl, rfl⟩) (zha (by decide)) zc_r_changeRead (by decide) ⟨by omega, by omega⟩ (zvC zk_changeRead (by omega)) ?_
        refine zg_eq0 rfl rfl (fun x k => rfl) (by first | assumption | exact hA _ _ | exact hB _ _ | exact hC _ _ | exact zrg_max (by assumption) (hA _ _) | (constructor <;> omega)) (fun hc => ?_) (fun hc => ?_)
        ·
          exact (by omega : False).elim
        ·
          show XG _ _ 123 [some (.ref 107), some (zci (t)), some (zci (s)), some (zci (k)), some (zci (w)), some (zci (c)), some (zci (0)), some (zci (1)), some (zci (2)), some (zci (((t * 31) + w) * 3))] _ _ _
          refine xg_step rfl rfl (fun k => rfl) ?_
          refine xg_step rfl rfl (fun k => rfl) ?_
          refine xg_step rfl rfl (fun k => rfl) ?_
          refine xg_get rfl rfl (zha (by decide)) zc_RefM rfl rfl ?_
          refine xg_step rfl rfl (fun k => rfl) ?_
          refine xg_step rfl rfl (fun k => rfl) ?_
          refine zg_add rfl ?_
          refine zg_ald (.inl ⟨rfl, rfl⟩) (zha (by decide)) zc_r_changeRead (by decide) ⟨by omega, by omega⟩ (zvC zk_changeRead (by omega)) ?_
          refine xg_step rfl rfl (fun k => rfl) ?_
          refine xg_get rfl rfl (zha (by decide)) zc_RefM rfl rfl ?_
          refine xg_step rfl rfl (fun k => rfl) ?_
          refine xg_step rfl rfl (fun k => rfl) ?_
          refine zg_add rfl ?_
          refine zg_ald (.inl ⟨rfl, rfl⟩) (zha (by decide)) zc_r_changeRead (by decide) ⟨by omega, by omega⟩ (zvC zk_changeRead (by omega)) ?_
          refine zg_lt rfl rfl (fun x y k => rfl) (by first | assumption | exact hA _ _ | exact hB _ _ | exact hC _ _ | exact zrg_max (by assumption) (hA _ _) | (constructor <;> omega)) (by first | assumption | exact hA _ _ | exact hB _ _ | exact hC _ _ | exact zrg_max (by assumption) (hA _ _) | (constructor <;> omega)) (fun hc => ?_) (fun hc => ?_)
          ·
            exact (by omega : False).elim
          ·
            show XG _ _ 162 [some (.ref 107), some (zci (t)), some (zci (s)), some (zci (k)), some (zci (w)), some (zci (c)), some (zci (0)), some (zci (1)), some (zci (2)), some (zci (((t * 31) + w) * 3))] _ _ _
            refine xg_step rfl rfl (fun k => rfl) ?_
            refine xg_step rfl rfl (fun k => rfl) ?_
            refine xg_step rfl rfl (fun k => rfl) ?_
            refine xg_get rfl rfl (zha (by decide)) zc_RefM rfl rfl ?_
            refine xg_step rfl rfl (fun k => rfl) ?_
            refine xg_step rfl rfl (fun k => rfl) ?_
            refine zg_add rfl ?_
            refine zg_ald (.inl ⟨rfl, rfl⟩) (zha (by decide)) zc_r_changeRead (by decide) ⟨by omega, by omega⟩ (zvC zk_changeRead (by omega)) ?_
            refine xg_step rfl rfl (fun k => rfl) ?_
            refine xg_get rfl rfl (zha (by decide)) zc_RefM rfl rfl ?_
            refine xg_step rfl rfl (fun k => rfl) ?_
            refine xg_step rfl rfl (fun k => rfl) ?_
            refine zg_add rfl ?_
            refine zg_ald (.inl ⟨rfl, rfl⟩) (zha (by decide)) zc_r_changeRead (by decide) ⟨by omega, by omega⟩ (zvC zk_changeRead (by omega)) ?_
            refine zg_lt rfl rfl (fun x y k => rfl) (by first | assumption | exact hA _ _ | exact hB _ _ | exact hC _ _ | exact zrg_max (by assumption) (hA _ _) | (constructor <;> omega)) (by first | assumption | exact hA _ _ | exact hB _ _ | exact hC _ _ | exact zrg_max (by assumption) (hA _ _) | (constructor <;> omega)) (fun hc => ?_) (fun hc => ?_)
            ·
              exact (by omega : False).elim
            ·
              show XG _ _ 194 [some (.ref 107), some (zci (t)), some (zci (s)), some (zci (k)), some (zci (w)), some (zci (c)), some (zci (0)), some (zci (1)), some (zci (2)), some (zci (((t * 31) + w) * 3))] _ _ _
              refine zg_inc (y := 3) rfl rfl (by decide) rfl ?_
              refine xg_step rfl rfl (fun k => rfl) ?_
              show XG _ _ 90 [some (.ref 107), some (zci (t)), some (zci (s)), some (zci (k)), some (zci (w)), some (zci (c)), some (zci (0)), some (zci (1)), some (zci (3)), some (zci (((t * 31) + w) * 3))] _ _ _
              refine xg_step rfl rfl (fun k => rfl) ?_
              refine xg_step rfl rfl (fun k => rfl) ?_
              refine xg_step rfl rfl (fun k => rfl) ?_
              show XG _ _ 200 [some (.ref 107), some (zci (t)), some (zci (s)), some (zci (k)), some (zci (w)), some (zci (c)), some (zci (0)), some (zci (1)), some (zci (3)), some (zci (((t * 31) + w) * 3))] _ _ _
              refine xg_step rfl rfl (fun k => rfl) ?_
              refine xg_step rfl rfl (fun k => rfl) ?_
              refine xg_step rfl rfl (fun k => rfl) ?_
              refine zg_bi rfl (by decide) ?_
              refine zg_mul rfl ?_
              refine xg_step rfl rfl (fun k => rfl) ?_
              refine zg_add rfl ?_
              refine xg_step rfl rfl (fun k => rfl) ?_
              refine zg_mul rfl ?_
              refine xg_step rfl rfl (fun k => rfl) ?_
              show XG _ _ 217 [some (.ref 107), some (zci (t)), some (zci (s)), some (zci (k)), some (zci (w)), some (zci (c)), some (zci (0)), some (zci (1)), some (zci (((t * 31) + w) * 3)), some (zci (((t * 31) + w) * 3))] _ _ _
              refine xg_step rfl rfl (fun k => rfl) ?_
              refine xg_step rfl rfl (fun k => rfl) ?_
              refine xg_step rfl rfl (fun k => rfl) ?_
              refine xg_step rfl rfl (fun k => rfl) ?_
              refine xg_step rfl rfl (fun k => rfl) ?_
              refine xg_step rfl rfl (fun k => rfl) ?_
              refine xg_get rfl rfl (zha (by decide)) zc_RefM rfl rfl ?_
              refine xg_step rfl rfl (fun k => rfl) ?_
              refine xg_step rfl rfl (fun k => rfl) ?_
              refine zg_add rfl ?_
              refine zg_ald (.inl ⟨rfl, rfl⟩) (zha (by decide)) zc_r_changeNumber (by decide) ⟨by omega, by omega⟩ (zvC zk_changeNumber (by omega)) ?_
              refine zg_mul rfl ?_
              refine xg_step rfl rfl (fun k => rfl) ?_
              refine zg_add rfl ?_
              refine xg_step rfl rfl (fun k => rfl) ?_
              refine xg_step rfl rfl (fun k => rfl) ?_
              refine xg_get rfl rfl (zha (by decide)) zc_RefM rfl rfl ?_
              refine xg_step rfl rfl (fun k => rfl) ?_
              refine xg_step rfl rfl (fun k => rfl) ?_
              refine zg_add rfl ?_
              refine zg_ald (.inl ⟨rfl, rfl⟩) (zha (by decide)) zc_r_changeNumber (by decide) ⟨by omega, by omega⟩ (zvC zk_changeNumber (by omega)) ?_
              refine zg_mul rfl ?_
              refine xg_step rfl rfl (fun k => rfl) ?_
              refine zg_add rfl ?_
              rw [show (3 * (C 143 ((((t * 31) + w) * 3) + 0))) + 0 = f from by omega, show (3 * (C 143 ((((t * 31) + w) * 3) + 1))) + 1 = g from by omega]
              refine zg_cvi rfl rfl rfl (Nat.le_of_ble_eq_true rfl) (zha (by decide)) zc_RefM rfl rfl hmid ?_
              refine xg_step rfl rfl (fun k => rfl) ?_
              exact zg_ret rfl rfl rfl
set_option maxRecDepth 10000 in
theorem zm_125_020 {d : Nat} {A B C : ZM} (hB : zRg B) (hC : zRg C) {t s k w c f g : Int} (ht : 0 ≤ t ∧ t < 3) (hw : 0 ≤ w ∧ w < 31) {o6 o7 o8 o9 : Option Value} (h : zc2 C t w 0 2 1 f g) (hz : C 142 ((t * 31 + w) * 3 + 1) = 0) {B2 C2 : ZM} {rv : Int} (hmid : XR (d + 1) 121 [.ref 107, zci t, zci 3, zci w, zci f, zci g] (zhp A (zmg B C)) (some (zci rv), zhp A (zmg B2 C2))) : XG (d + 1) 125 81 [some (.ref 107), some (zci t), some (zci s), some (zci k), some (zci w), some (zci c), o6, o7, o8, o9] [] (zhp A (zmg B C)) (none, zhp A (zmg B2 C2)) := by
  obtain ⟨h1, h2, h3, h4, -, h6, h7⟩ := h
  refine xg_step rfl rfl (fun k => rfl) ?_
  refine xg_step rfl rfl (fun k => rfl) ?_
  refine xg_step rfl rfl (fun k => rfl) ?_
  refine xg_step rfl rfl (fun k => rfl) ?_
  refine xg_step rfl rfl (fun k => rfl) ?_
  refine xg_step rfl rfl (fun k => rfl) ?_
  show XG _ _ 90 [some (.ref 107), some (zci (t)), some (zci (s)), some (zci (k)), some (zci (w)), some (zci (c)), some (zci ((-1))), some (zci ((-1))), some (zci (0)), o9] _ _ _
  refine xg_step rfl rfl (fun k => rfl) ?_
  refine xg_step rfl rfl (fun k => rfl) ?_
  refine xg_step rfl rfl (fun k => rfl) ?_
  refine xg_step rfl rfl (fun k => rfl) ?_
  refine zg_bi rfl (by decide) ?_
  refine zg_mul rfl ?_
  refine xg_step rfl rfl (fun k => rfl) ?_
  refine zg_add rfl ?_
  refine xg_step rfl rfl (fun k => rfl) ?_
  refine zg_mul rfl ?_
  refine xg_step rfl rfl (fun k => rfl) ?_
  show XG _ _ 107 [some (.ref 107), some (zci (t)), some (zci (s)), some (zci (k)), some (zci (w)), some (zci (c)), some (zci ((-1))), some (zci ((-1))), some (zci (0)), some (zci (((t * 31) + w) * 3))] _ _ _
  refine xg_step rfl rfl (fun k => rfl) ?_
  refine xg_get rfl rfl (zha (by decide)) zc_RefM rfl rfl ?_
  refine xg_step rfl rfl (fun k => rfl) ?_
  refine xg_step rfl rfl (fun k => rfl) ?_
  refine zg_add rfl ?_
  refine zg_ald (.inl ⟨rfl, rfl⟩) (zha (by decide)) zc_r_changeRead (by decide) ⟨by omega, by omega⟩ (zvC zk_changeRead (by omega)) ?_
  refine zg_eq0 rfl rfl (fun x k => rfl) (by first | assumption | exact hA _ _ | exact hB _ _ | exact hC _ _ | exact zrg_max (by assumption) (hA _ _) | (constructor <;> omega)) (fun hc => ?_) (fun hc => ?_)
  ·
    exact (by omega : False).elim
  ·
    show XG _ _ 123 [some (.ref 107), some (zci (t)), some (zci (s)), some (zci (k)), some (zci (w)), some (zci (c)), some (zci ((-1))), some (zci ((-1))), some (zci (0)), some (zci (((t * 31) + w) * 3))] _ _ _
    refine xg_step rfl rfl (fun k => rfl) ?_
    refine xg_step rfl rfl (fun k => rfl) ?_
    refine xg_step rfl rfl (fun k => rfl) ?_
    refine xg_step rfl rfl (fun k => rfl) ?_
    refine xg_step rfl rfl (fun k => rfl) ?_
    refine xg_step rfl rfl (fun k => rfl) ?_
    refine xg_step rfl rfl (fun k => rfl) ?_
    show XG _ _ 194 [some (.ref 107), some (zci (t)), some (zci (s)), some (zci (k)), some (zci (w)), some (zci (c)), some (zci (0)), some (zci ((-1))), some (zci (0)), some (zci (((t * 31) + w) * 3))] _ _ _
    refine zg_inc (y := 1) rfl rfl (by decide) rfl ?_
    refine xg_step rfl rfl (fun k => rfl) ?_
    show XG _ _ 90 [some (.ref 107), some (zci (t)), some (zci (s)), some (zci (k)), some (zci (w)), some (zci (c)), some (zci (0)), some (zci ((-1))), some (zci (1)), some (zci (((t * 31) + w) * 3))] _ _ _
    refine xg_step rfl rfl (fun k => rfl) ?_
    refine xg_step rfl rfl (fun k => rfl) ?_
    refine xg_step rfl rfl (fun k => rfl) ?_
    refine xg_step rfl rfl (fun k => rfl) ?_
    refine zg_bi rfl (by decide) ?_
    refine zg_mul rfl ?_
    refine xg_step rfl rfl (fun k => rfl) ?_
    refine zg_add rfl ?_
    refine xg_step rfl rfl (fun k => rfl) ?_
    refine zg_mul rfl ?_
    refine xg_step rfl rfl (fun k => rfl) ?_
    show XG _ _ 107 [some (.ref 107), some (zci (t)), some (zci (s)), some (zci (k)), some (zci (w)), some (zci (c)), some (zci (0)), some (zci ((-1))), some (zci (1)), some (zci (((t * 31) + w) * 3))] _ _ _
    refine xg_step rfl rfl (fun k => rfl) ?_
    refine xg_get rfl rfl (zha (by decide)) zc_RefM rfl rfl ?_
    refine xg_step rfl rfl (fun k => rfl) ?_
    refine xg_step rfl rfl (fun k => rfl) ?_
    refine zg_add rfl ?_
    refine zg_ald (.inl ⟨rfl, rfl⟩) (zha (by decide)) zc_r_changeRead (by decide) ⟨by omega, by omega⟩ (zvC zk_changeRead (by omega)) ?_
    refine zg_eq0 rfl rfl (fun x k => rfl) (by first | assumption | exact hA _ _ | exact hB _ _ | exact hC _ _ | exact zrg_max (by assumption) (hA _ _) | (constructor <;> omega)) (fun hc => ?_) (fun hc => ?_)
    ·
      refine xg_step rfl rfl (fun k => rfl) ?_
      show XG _ _ 194 [some (.ref 107), some (zci (t)), some (zci (s)), some (zci (k)), some (zci (w)), some (zci (c)), some (zci (0)), some (zci ((-1))), some (zci (1)), some (zci (((t * 31) + w) * 3))] _ _ _
      refine zg_inc (y := 2) rfl rfl (by decide) rfl ?_
      refine xg_step rfl rfl (fun k => rfl) ?_
      show XG _ _ 90 [some (.ref 107), some (zci (t)), some (zci (s)), some (zci (k)), some (zci (w)), some (zci (c)), some (zci (0)), some (zci ((-1))), some (zci (2)), some (zci (((t * 31) + w) * 3))] _ _ _
      refine xg_step rfl rfl (fun k => rfl) ?_
      refine xg_step rfl rfl (fun k => rfl) ?_
      refine xg_step rfl rfl (fun k => rfl) ?_
      refine xg_step rfl rfl (fun k => rfl) ?_
      refine zg_bi rfl (by decide) ?_
      refine zg_mul rfl ?_
      refine xg_step rfl rfl (fun k => rfl) ?_
      refine zg_add rfl ?_
      refine xg_step rfl rfl (fun k => rfl) ?_
      refine zg_mul rfl ?_
      refine xg_step rfl rfl (fun k => rfl) ?_
      show XG _ _ 107 [some (.ref 107), some (zci (t)), some (zci (s)), some (zci (k)), some (zci (w)), some (zci (c)), some (zci (0)), some (zci ((-1))), some (zci (2)), some (zci (((t * 31) + w) * 3))] _ _ _
      refine xg_step rfl rfl (fun k => rfl) ?_
      refine xg_get rfl rfl (zha (by decide)) zc_RefM rfl rfl ?_
      refine xg_step rfl rfl (fun k => rfl) ?_
      refine xg_step rfl rfl (fun k => rfl) ?_
      refine zg_add rfl ?_
      refine zg_ald (.inl ⟨rfl, rfl⟩) (zha (by decide)) zc_r_changeRead (by decide) ⟨by omega, by omega⟩ (zvC zk_changeRead (by omega)) ?_
      refine zg_eq0 rfl rfl (fun x k => rfl) (by first | assumption | exact hA _ _ | exact hB _ _ | exact hC _ _ | exact zrg_max (by assumption) (hA _ _) | (constructor <;> omega)) (fun hc => ?_) (fun hc => ?_)
      ·
        exact (by omega : False).elim
      ·
        show XG _ _ 123 [some (.ref 107), some (zci (t)), some (zci (s)), some (zci (k)), some (zci (w)), some (zci (c)), some (zci (0)), some (zci ((-1))), some (zci (2)), some (zci (((t * 31) + w) * 3))] _ _ _
        refine xg_step rfl rfl (fun k => rfl) ?_
        refine xg_step rfl rfl (fun k => rfl) ?_
        refine xg_step rfl rfl (fun k => rfl) ?_
        refine xg_get rfl rfl (zha (by decide)) zc_RefM rfl rfl ?_
        refine xg_step rfl rfl (fun k => rfl) ?_
        refine xg_step rfl rfl (fun k => rfl) ?_
        refine zg_add rfl ?_
        refine zg_ald (.inl ⟨rfl, rfl⟩) (zha (by decide)) zc_r_changeRead (by decide) ⟨by omega, by omega⟩ (zvC zk_changeRead (by omega)) ?_
        refine xg_step rfl rfl (fun k => rfl) ?_
        refine xg_get rfl rfl (zha (by decide)) zc_RefM rfl rfl ?_
        refine xg_step rfl rfl (fun k => rfl) ?_
        refine xg_step rfl rfl (fun k => rfl) ?_
        refine zg_add rfl ?_
        refine zg_ald (.inl ⟨rfl, rfl⟩) (zha (by decide)) zc_r_changeRead (by decide) ⟨by omega, by omega⟩ (zvC zk_changeRead (by omega)) ?_
        refine zg_lt rfl rfl (fun x y k => rfl) (by first | assumption | exact hA _ _ | exact hB _ _ | exact hC _ _ | exact zrg_max (by assumption) (hA _ _) | (constructor <;> omega)) (by first | assumption | exact hA _ _ | exact hB _ _ | exact hC _ _ | exact zrg_max (by assumption) (hA _ _) | (constructor <;> omega)) (fun hc => ?_) (fun hc => ?_)
        ·
          exact (by omega : False).elim
        ·
          show XG _ _ 162 [some (.ref 107), some (zci (t)), some (zci (s)), some (zci (k)), some (zci (w)), some (zci (c)), some (zci (0)), some (zci ((-1))), some (zci (2)), some (zci (((t * 31) + w) * 3))] _ _ _
          refine xg_step rfl rfl (fun k => rfl) ?_
          refine xg_step rfl rfl (fun k => rfl) ?_
          refine xg_step rfl rfl (fun k => rfl) ?_
          refine xg_step rfl rfl (fun k => rfl) ?_
          show XG _ _ 194 [some (.ref 107), some (zci (t)), some (zci (s)), some (zci (k)), some (zci (w)), some (zci (c)), some (zci (0)), some (zci (2)), some (zci (2)), some (zci (((t * 31) + w) * 3))] _ _ _
          refine zg_inc (y := 3) rfl rfl (by decide) rfl ?_
          refine xg_step rfl rfl (fun k => rfl) ?_
          show XG _ _ 90 [some (.ref 107), some (zci (t)), some (zci (s)), some (zci (k)), some (zci (w)), some (zci (c)), some (zci (0)), some (zci (2)), some (zci (3)), some (zci (((t * 31) + w) * 3))] _ _ _
          refine xg_step rfl rfl (fun k => rfl) ?_
          refine xg_step rfl rfl (fun k => rfl) ?_
          refine xg_step rfl rfl (fun k => rfl) ?_
          show XG _ _ 200 [some (.ref 107), some (zci (t)), some (zci (s)), some (zci (k)), some (zci (w)), some (zci (c)), some (zci (0)), some (zci (2)), some (zci (3)), some (zci (((t * 31) + w) * 3))] _ _ _
          refine xg_step rfl rfl (fun k => rfl) ?_
          refine xg_step rfl rfl (fun k => rfl) ?_
          refine xg_step rfl rfl (fun k => rfl) ?_
          refine zg_bi rfl (by decide) ?_
          refine zg_mul rfl ?_
          refine xg_step rfl rfl (fun k => rfl) ?_
          refine zg_add rfl ?_
          refine xg_step rfl rfl (fun k => rfl) ?_
          refine zg_mul rfl ?_
          refine xg_step rfl rfl (fun k => rfl) ?_
          show XG _ _ 217 [some (.ref 107), some (zci (t)), some (zci (s)), some (zci (k)), some (zci (w)), some (zci (c)), some (zci (0)), some (zci (2)), some (zci (((t * 31) + w) * 3)), some (zci (((t * 31) + w) * 3))] _ _ _
          refine xg_step rfl rfl (fun k => rfl) ?_
          refine xg_step rfl rfl (fun k => rfl) ?_
          refine xg_step rfl rfl (fun k => rfl) ?_
          refine xg_step rfl rfl (fun k => rfl) ?_
          refine xg_step rfl rfl (fun k => rfl) ?_
          refine xg_step rfl rfl (fun k => rfl) ?_
          refine xg_get rfl rfl (zha (by decide)) zc_RefM rfl rfl ?_
          refine xg_step rfl rfl (fun k => rfl) ?_
          refine xg_step rfl rfl (fun k => rfl) ?_
          refine zg_add rfl ?_
          refine zg_ald (.inl ⟨rfl, rfl⟩) (zha (by decide)) zc_r_changeNumber (by decide) ⟨by omega, by omega⟩ (zvC zk_changeNumber (by omega)) ?_
          refine zg_mul rfl ?_
          refine xg_step rfl rfl (fun k => rfl) ?_
          refine zg_add rfl ?_
          refine xg_step rfl rfl (fun k => rfl) ?_
          refine xg_step rfl rfl (fun k => rfl) ?_
          refine xg_get rfl rfl (zha (by decide)) zc_RefM rfl rfl ?_
          refine xg_step rfl rfl (fun k => rfl) ?_
          refine xg_step rfl rfl (fun k => rfl) ?_
          refine zg_add rfl ?_
          refine zg_ald (.inl ⟨rfl, rfl⟩) (zha (by decide)) zc_r_changeNumber (by decide) ⟨by omega, by omega⟩ (zvC zk_changeNumber (by omega)) ?_
          refine zg_mul rfl ?_
          refine xg_step rfl rfl (fun k => rfl) ?_
          refine zg_add rfl ?_
          rw [show (3 * (C 143 ((((t * 31) + w) * 3) + 0))) + 0 = f from by omega, show (3 * (C 143 ((((t * 31) + w) * 3) + 2))) + 2 = g from by omega]
          refine zg_cvi rfl rfl rfl (Nat.le_of_ble_eq_true rfl) (zha (by decide)) zc_RefM rfl rfl hmid ?_
          refine xg_step rfl rfl (fun k => rfl) ?_
          exact zg_ret rfl rfl rfl
    ·
      exact (by omega : False).elim
set_option maxRecDepth 10000 in
theorem zm_125_021 {d : Nat} {A B C : ZM} (hB : zRg B) (hC : zRg C) {t s k w c f g : Int} (ht : 0 ≤ t ∧ t < 3) (hw : 0 ≤ w ∧ w < 31) {o6 o7 o8 o9 : Option Value} (h : zc2 C t w 0 2 1 f g) (hz : C 142 ((t * 31 + w) * 3 + 2) < C 142 ((t * 31 + w) * 3 + 1)) {B2 C2 : ZM} {rv : Int} (hmid : XR (d + 1) 121 [.ref 107, zci t, zci 3, zci w, zci f, zci g] (zhp A (zmg B C)) (some (zci rv), zhp A (zmg B2 C2))) : XG (d + 1) 125 81 [some (.ref 107), some (zci t), some (zci s), some (zci k), some (zci w), some (zci c), o6, o7, o8, o9] [] (zhp A (zmg B C)) (none, zhp A (zmg B2 C2)) := by
  obtain ⟨h1, h2, h3, h4, -, h6, h7⟩ := h
  refine xg_step rfl rfl (fun k => rfl) ?_
  refine xg_step rfl rfl (fun k => rfl) ?_
  refine xg_step rfl rfl (fun k => rfl) ?_
  refine xg_step rfl rfl (fun k => rfl) ?_
  refine xg_step rfl rfl (fun k => rfl) ?_
  refine xg_step rfl rfl (fun k => rfl) ?_
  show XG _ _ 90 [some (.ref 107), some (zci (t)), some (zci (s)), some (zci (k)), some (zci (w)), some (zci (c)), some (zci ((-1))), some (zci ((-1))), some (zci (0)), o9] _ _ _
  refine xg_step rfl rfl (fun k => rfl) ?_
  refine xg_step rfl rfl (fun k => rfl) ?_
  refine xg_step rfl rfl (fun k => rfl) ?_
  refine xg_step rfl rfl (fun k => rfl) ?_
  refine zg_bi rfl (by decide) ?_
  refine zg_mul rfl ?_
  refine xg_step rfl rfl (fun k => rfl) ?_
  refine zg_add rfl ?_
  refine xg_step rfl rfl (fun k => rfl) ?_
  refine zg_mul rfl ?_
  refine xg_step rfl rfl (fun k => rfl) ?_
  show XG _ _ 107 [some (.ref 107), some (zci (t)), some (zci (s)), some (zci (k)), some (zci (w)), some (zci (c)), some (zci ((-1))), some (zci ((-1))), some (zci (0)), some (zci (((t * 31) + w) * 3))] _ _ _
  refine xg_step rfl rfl (fun k => rfl) ?_
  refine xg_get rfl rfl (zha (by decide)) zc_RefM rfl rfl ?_
  refine xg_step rfl rfl (fun k => rfl) ?_
  refine xg_step rfl rfl (fun k => rfl) ?_
  refine zg_add rfl ?_
  refine zg_ald (.inl ⟨rfl, rfl⟩) (zha (by decide)) zc_r_changeRead (by decide) ⟨by omega, by omega⟩ (zvC zk_changeRead (by omega)) ?_
  refine zg_eq0 rfl rfl (fun x k => rfl) (by first | assumption | exact hA _ _ | exact hB _ _ | exact hC _ _ | exact zrg_max (by assumption) (hA _ _) | (constructor <;> omega)) (fun hc => ?_) (fun hc => ?_)
  ·
    exact (by omega : False).elim
  ·
    show XG _ _ 123 [some (.ref 107), some (zci (t)), some (zci (s)), some (zci (k)), some (zci (w)), some (zci (c)), some (zci ((-1))), some (zci ((-1))), some (zci (0)), some (zci (((t * 31) + w) * 3))] _ _ _
    refine xg_step rfl rfl (fun k => rfl) ?_
    refine xg_step rfl rfl (fun k => rfl) ?_
    refine xg_step rfl rfl (fun k => rfl) ?_
    refine xg_step rfl rfl (fun k => rfl) ?_
    refine xg_step rfl rfl (fun k => rfl) ?_
    refine xg_step rfl rfl (fun k => rfl) ?_
    refine xg_step rfl rfl (fun k => rfl) ?_
    show XG _ _ 194 [some (.ref 107), some (zci (t)), some (zci (s)), some (zci (k)), some (zci (w)), some (zci (c)), some (zci (0)), some (zci ((-1))), some (zci (0)), some (zci (((t * 31) + w) * 3))] _ _ _
    refine zg_inc (y := 1) rfl rfl (by decide) rfl ?_
    refine xg_step rfl rfl (fun k => rfl) ?_
    show XG _ _ 90 [some (.ref 107), some (zci (t)), some (zci (s)), some (zci (k)), some (zci (w)), some (zci (c)), some (zci (0)), some (zci ((-1))), some (zci (1)), some (zci (((t * 31) + w) * 3))] _ _ _
    refine xg_step rfl rfl (fun k => rfl) ?_
    refine xg_step rfl rfl (fun k => rfl) ?_
    refine xg_step rfl rfl (fun k => rfl) ?_
    refine xg_step rfl rfl (fun k => rfl) ?_
    refine zg_bi rfl (by decide) ?_
    refine zg_mul rfl ?_
    refine xg_step rfl rfl (fun k => rfl) ?_
    refine zg_add rfl ?_
    refine xg_step rfl rfl (fun k => rfl) ?_
    refine zg_mul rfl ?_
    refine xg_step rfl rfl (fun k => rfl) ?_
    show XG _ _ 107 [some (.ref 107), some (zci (t)), some (zci (s)), some (zci (k)), some (zci (w)), some (zci (c)), some (zci (0)), some (zci ((-1))), some (zci (1)), some (zci (((t * 31) + w) * 3))] _ _ _
    refine xg_step rfl rfl (fun k => rfl) ?_
    refine xg_get rfl rfl (zha (by decide)) zc_RefM rfl rfl ?_
    refine xg_step rfl rfl (fun k => rfl) ?_
    refine xg_step rfl rfl (fun k => rfl) ?_
    refine zg_add rfl ?_
    refine zg_ald (.inl ⟨rfl, rfl⟩) (zha (by decide)) zc_r_changeRead (by decide) ⟨by omega, by omega⟩ (zvC zk_changeRead (by omega)) ?_
    refine zg_eq0 rfl rfl (fun x k => rfl) (by first | assumption | exact hA _ _ | exact hB _ _ | exact hC _ _ | exact zrg_max (by assumption) (hA _ _) | (constructor <;> omega)) (fun hc => ?_) (fun hc => ?_)
    ·
      exact (by omega : False).elim
    ·
      show XG _ _ 123 [some (.ref 107), some (zci (t)), some (zci (s)), some (zci (k)), some (zci (w)), some (zci (c)), some (zci (0)), some (zci ((-1))), some (zci (1)), some (zci (((t * 31) + w) * 3))] _ _ _
      refine xg_step rfl rfl (fun k => rfl) ?_
      refine xg_step rfl rfl (fun k => rfl) ?_
      refine xg_step rfl rfl (fun k => rfl) ?_
      refine xg_get rfl rfl (zha (by decide)) zc_RefM rfl rfl ?_
      refine xg_step rfl rfl (fun k => rfl) ?_
      refine xg_step rfl rfl (fun k => rfl) ?_
      refine zg_add rfl ?_
      refine zg_ald (.inl ⟨rfl, rfl⟩) (zha (by decide)) zc_r_changeRead (by decide) ⟨by omega, by omega⟩ (zvC zk_changeRead (by omega)) ?_
      refine xg_step rfl rfl (fun k => rfl) ?_
      refine xg_get rfl rfl (zha (by decide)) zc_RefM rfl rfl ?_
      refine xg_step rfl rfl (fun k => rfl) ?_
      refine xg_step rfl rfl (fun k => rfl) ?_
      refine zg_add rfl ?_
      refine zg_ald (.inl ⟨rfl, rfl⟩) (zha (by decide)) zc_r_changeRead (by decide) ⟨by omega, by omega⟩ (zvC zk_changeRead (by omega)) ?_
      refine zg_lt rfl rfl (fun x y k => rfl) (by first | assumption | exact hA _ _ | exact hB _ _ | exact hC _ _ | exact zrg_max (by assumption) (hA _ _) | (constructor <;> omega)) (by first | assumption | exact hA _ _ | exact hB _ _ | exact hC _ _ | exact zrg_max (by assumption) (hA _ _) | (constructor <;> omega)) (fun hc => ?_) (fun hc => ?_)
      ·
        exact (by omega : False).elim
      ·
        show XG _ _ 162 [some (.ref 107), some (zci (t)), some (zci (s)), some (zci (k)), some (zci (w)), some (zci (c)), some (zci (0)), some (zci ((-1))), some (zci (1)), some (zci (((t * 31) + w) * 3))] _ _ _
        refine xg_step rfl rfl (fun k => rfl) ?_
        refine xg_step rfl rfl (fun k => rfl) ?_
        refine xg_step rfl rfl (fun k => rfl) ?_
        refine xg_step rfl rfl (fun k => rfl) ?_
        show XG _ _ 194 [some (.ref 107), some (zci (t)), some (zci (s)), some (zci (k)), some (zci (w)), some (zci (c)), some (zci (0)), some (zci (1)), some (zci (1)), some (zci (((t * 31) + w) * 3))] _ _ _
        refine zg_inc (y := 2) rfl rfl (by decide) rfl ?_
        refine xg_step rfl rfl (fun k => rfl) ?_
        show XG _ _ 90 [some (.ref 107), some (zci (t)), some (zci (s)), some (zci (k)), some (zci (w)), some (zci (c)), some (zci (0)), some (zci (1)), some (zci (2)), some (zci (((t * 31) + w) * 3))] _ _ _
        refine xg_step rfl rfl (fun k => rfl) ?_
        refine xg_step rfl rfl (fun k => rfl) ?_
        refine xg_step rfl rfl (fun k => rfl) ?_
        refine xg_step rfl rfl (fun k => rfl) ?_
        refine zg_bi rfl (by decide) ?_
        refine zg_mul rfl ?_
        refine xg_step rfl rfl (fun k => rfl) ?_
        refine zg_add rfl ?_
        refine xg_step rfl rfl (fun k => rfl) ?_
        refine zg_mul rfl ?_
        refine xg_step rfl rfl (fun k => rfl) ?_
        show XG _ _ 107 [some (.ref 107), some (zci (t)), some (zci (s)), some (zci (k)), some (zci (w)), some (zci (c)), some (zci (0)), some (zci (1)), some (zci (2)), some (zci (((t * 31) + w) * 3))] _ _ _
        refine xg_step rfl rfl (fun k => rfl) ?_
        refine xg_get rfl rfl (zha (by decide)) zc_RefM rfl rfl ?_
        refine xg_step rfl rfl (fun k => rfl) ?_
        refine xg_step rfl rfl (fun k => rfl) ?_
        refine zg_add rfl ?_
        refine zg_ald (.inl ⟨rfl, rfl⟩) (zha (by decide)) zc_r_changeRead (by decide) ⟨by omega, by omega⟩ (zvC zk_changeRead (by omega)) ?_
        refine zg_eq0 rfl rfl (fun x k => rfl) (by first | assumption | exact hA _ _ | exact hB _ _ | exact hC _ _ | exact zrg_max (by assumption) (hA _ _) | (constructor <;> omega)) (fun hc => ?_) (fun hc => ?_)
        ·
          exact (by omega : False).elim
        ·
          show XG _ _ 123 [some (.ref 107), some (zci (t)), some (zci (s)), some (zci (k)), some (zci (w)), some (zci (c)), some (zci (0)), some (zci (1)), some (zci (2)), some (zci (((t * 31) + w) * 3))] _ _ _
          refine xg_step rfl rfl (fun k => rfl) ?_
          refine xg_step rfl rfl (fun k => rfl) ?_
          refine xg_step rfl rfl (fun k => rfl) ?_
          refine xg_get rfl rfl (zha (by decide)) zc_RefM rfl rfl ?_
          refine xg_step rfl rfl (fun k => rfl) ?_
          refine xg_step rfl rfl (fun k => rfl) ?_
          refine zg_add rfl ?_
          refine zg_ald (.inl ⟨rfl, rfl⟩) (zha (by decide)) zc_r_changeRead (by decide) ⟨by omega, by omega⟩ (zvC zk_changeRead (by omega)) ?_
          refine xg_step rfl rfl (fun k => rfl) ?_
          refine xg_get rfl rfl (zha (by decide)) zc_RefM rfl rfl ?_
          refine xg_step rfl rfl (fun k => rfl) ?_
          refine xg_step rfl rfl (fun k => rfl) ?_
          refine zg_add rfl ?_
          refine zg_ald (.inl ⟨rfl, rfl⟩) (zha (by decide)) zc_r_changeRead (by decide) ⟨by omega, by omega⟩ (zvC zk_changeRead (by omega)) ?_
          refine zg_lt rfl rfl (fun x y k => rfl) (by first | assumption | exact hA _ _ | exact hB _ _ | exact hC _ _ | exact zrg_max (by assumption) (hA _ _) | (constructor <;> omega)) (by first | assumption | exact hA _ _ | exact hB _ _ | exact hC _ _ | exact zrg_max (by assumption) (hA _ _) | (constructor <;> omega)) (fun hc => ?_) (fun hc => ?_)
          ·
            exact (by omega : False).elim
          ·
            show XG _ _ 162 [some (.ref 107), some (zci (t)), some (zci (s)), some (zci (k)), some (zci (w)), some (zci (c)), some (zci (0)), some (zci (1)), some (zci (2)), some (zci (((t * 31) + w) * 3))] _ _ _
            refine xg_step rfl rfl (fun k => rfl) ?_
            refine xg_step rfl rfl (fun k => rfl) ?_
            refine xg_step rfl rfl (fun k => rfl) ?_
            refine xg_get rfl rfl (zha (by decide)) zc_RefM rfl rfl ?_
            refine xg_step rfl rfl (fun k => rfl) ?_
            refine xg_step rfl rfl (fun k => rfl) ?_
            refine zg_add rfl ?_
            refine zg_ald (.inl ⟨rfl, rfl⟩) (zha (by decide)) zc_r_changeRead (by decide) ⟨by omega, by omega⟩ (zvC zk_changeRead (by omega)) ?_
            refine xg_step rfl rfl (fun k => rfl) ?_
            refine xg_get rfl rfl (zha (by decide)) zc_RefM rfl rfl ?_
            refine xg_step rfl rfl (fun k => rfl) ?_
            refine xg_step rfl rfl (fun k => rfl) ?_
            refine zg_add rfl ?_
            refine zg_ald (.inl ⟨rfl, rfl⟩) (zha (by decide)) zc_r_changeRead (by decide) ⟨by omega, by omega⟩ (zvC zk_changeRead (by omega)) ?_
            refine zg_lt rfl rfl (fun x y k => rfl) (by first | assumption | exact hA _ _ | exact hB _ _ | exact hC _ _ | exact zrg_max (by assumption) (hA _ _) | (constructor <;> omega)) (by first | assumption | exact hA _ _ | exact hB _ _ | exact hC _ _ | exact zrg_max (by assumption) (hA _ _) | (constructor <;> omega)) (fun hc => ?_) (fun hc => ?_)
            ·
              refine xg_step rfl rfl (fun k => rfl) ?_
              refine xg_step rfl rfl (fun k => rfl) ?_
              show XG _ _ 194 [some (.ref 107), some (zci (t)), some (zci (s)), some (zci (k)), some (zci (w)), some (zci (c)), some (zci (0)), some (zci (2)), some (zci (2)), some (zci (((t * 31) + w) * 3))] _ _ _
              refine zg_inc (y := 3) rfl rfl (by decide) rfl ?_
              refine xg_step rfl rfl (fun k => rfl) ?_
              show XG _ _ 90 [some (.ref 107), some (zci (t)), some (zci (s)), some (zci (k)), some (zci (w)), some (zci (c)), some (zci (0)), some (zci (2)), some (zci (3)), some (zci (((t * 31) + w) * 3))] _ _ _
              refine xg_step rfl rfl (fun k => rfl) ?_
              refine xg_step rfl rfl (fun k => rfl) ?_
              refine xg_step rfl rfl (fun k => rfl) ?_
              show XG _ _ 200 [some (.ref 107), some (zci (t)), some (zci (s)), some (zci (k)), some (zci (w)), some (zci (c)), some (zci (0)), some (zci (2)), some (zci (3)), some (zci (((t * 31) + w) * 3))] _ _ _
              refine xg_step rfl rfl (fun k => rfl) ?_
              refine xg_step rfl rfl (fun k => rfl) ?_
              refine xg_step rfl rfl (fun k => rfl) ?_
              refine zg_bi rfl (by decide) ?_
              refine zg_mul rfl ?_
              refine xg_step rfl rfl (fun k => rfl) ?_
              refine zg_add rfl ?_
              refine xg_step rfl rfl (fun k => rfl) ?_
              refine zg_mul rfl ?_
              refine xg_step rfl rfl (fun k => rfl) ?_
              show XG _ _ 217 [some (.ref 107), some (zci (t)), some (zci (s)), some (zci (k)), some (zci (w)), some (zci (c)), some (zci (0)), some (zci (2)), some (zci (((t * 31) + w) * 3)), some (zci (((t * 31) + w) * 3))] _ _ _
              refine xg_step rfl rfl (fun k => rfl) ?_
              refine xg_step rfl rfl (fun k => rfl) ?_
              refine xg_step rfl rfl (fun k => rfl) ?_
              refine xg_step rfl rfl (fun k => rfl) ?_
              refine xg_step rfl rfl (fun k => rfl) ?_
              refine xg_step rfl rfl (fun k => rfl) ?_
              refine xg_get rfl rfl (zha (by decide)) zc_RefM rfl rfl ?_
              refine xg_step rfl rfl (fun k => rfl) ?_
              refine xg_step rfl rfl (fun k => rfl) ?_
              refine zg_add rfl ?_
              refine zg_ald (.inl ⟨rfl, rfl⟩) (zha (by decide)) zc_r_changeNumber (by decide) ⟨by omega, by omega⟩ (zvC zk_changeNumber (by omega)) ?_
              refine zg_mul rfl ?_
              refine xg_step rfl rfl (fun k => rfl) ?_
              refine zg_add rfl ?_
              refine xg_step rfl rfl (fun k => rfl) ?_
              refine xg_step rfl rfl (fun k => rfl) ?_
              refine xg_get rfl rfl (zha (by decide)) zc_RefM rfl rfl ?_
              refine xg_step rfl rfl (fun k => rfl) ?_
              refine xg_step rfl rfl (fun k => rfl) ?_
              refine zg_add rfl ?_
              refine zg_ald (.inl ⟨rfl, rfl⟩) (zha (by decide)) zc_r_changeNumber (by decide) ⟨by omega, by omega⟩ (zvC zk_changeNumber (by omega)) ?_
              refine zg_mul rfl ?_
              refine xg_step rfl rfl (fun k => rfl) ?_
              refine zg_add rfl ?_
              rw [show (3 * (C 143 ((((t * 31) + w) * 3) + 0))) + 0 = f from by omega, show (3 * (C 143 ((((t * 31) + w) * 3) + 2))) + 2 = g from by omega]
              refine zg_cvi rfl rfl rfl (Nat.le_of_ble_eq_true rfl) (zha (by decide)) zc_RefM rfl rfl hmid ?_
              refine xg_step rfl rfl (fun k => rfl) ?_
              exact zg_ret rfl rfl rfl
            ·
              exact (by omega : False).elim
set_option maxRecDepth 10000 in
theorem zm_125_100 {d : Nat} {A B C : ZM} (hB : zRg B) (hC : zRg C) {t s k w c f g : Int} (ht : 0 ≤ t ∧ t < 3) (hw : 0 ≤ w ∧ w < 31) {o6 o7 o8 o9 : Option Value} (h : zc2 C t w 1 0 2 f g) (hz : C 142 ((t * 31 + w) * 3 + 2) = 0) {B2 C2 : ZM} {rv : Int} (hmid : XR (d + 1) 121 [.ref 107, zci t, zci 3, zci w, zci f, zci g] (zhp A (zmg B C)) (some (zci rv), zhp A (zmg B2 C2))) : XG (d + 1) 125 81 [some (.ref 107), some (zci t), some (zci s), some (zci k), some (zci w), some (zci c), o6, o7, o8, o9] [] (zhp A (zmg B C)) (none, zhp A (zmg B2 C2)) := by
  obtain ⟨h1, h2, h3, h4, -, h6, h7⟩ := h
  refine xg_step rfl rfl (fun k => rfl) ?_
  refine xg_step rfl rfl (fun k => rfl) ?_
  refine xg_step rfl rfl (fun k => rfl) ?_
  refine xg_step rfl rfl (fun k => rfl) ?_
  refine xg_step rfl rfl (fun k => rfl) ?_
  refine xg_step rfl rfl (fun k => rfl) ?_
  show XG _ _ 90 [some (.ref 107), some (zci (t)), some (zci (s)), some (zci (k)), some (zci (w)), some (zci (c)), some (zci ((-1))), some (zci ((-1))), some (zci (0)), o9] _ _ _
  refine xg_step rfl rfl (fun k => rfl) ?_
  refine xg_step rfl rfl (fun k => rfl) ?_
  refine xg_step rfl rfl (fun k => rfl) ?_
  refine xg_step rfl rfl (fun k => rfl) ?_
  refine zg_bi rfl (by decide) ?_
  refine zg_mul rfl ?_
  refine xg_step rfl rfl (fun k => rfl) ?_
  refine zg_add rfl ?_
  refine xg_step rfl rfl (fun k => rfl) ?_
  refine zg_mul rfl ?_
  refine xg_step rfl rfl (fun k => rfl) ?_
  show XG _ _ 107 [some (.ref 107), some (zci (t)), some (zci (s)), some (zci (k)), some (zci (w)), some (zci (c)), some (zci ((-1))), some (zci ((-1))), some (zci (0)), some (zci (((t * 31) + w) * 3))] _ _ _
  refine xg_step rfl rfl (fun k => rfl) ?_
  refine xg_get rfl rfl (zha (by decide)) zc_RefM rfl rfl ?_
  refine xg_step rfl rfl (fun k => rfl) ?_
  refine xg_step rfl rfl (fun k => rfl) ?_
  refine zg_add rfl ?_
  refine zg_ald (.inl ⟨rfl, rfl⟩) (zha (by decide)) zc_r_changeRead (by decide) ⟨by omega, by omega⟩ (zvC zk_changeRead (by omega)) ?_
  refine zg_eq0 rfl rfl (fun x k => rfl) (by first | assumption | exact hA _ _ | exact hB _ _ | exact hC _ _ | exact zrg_max (by assumption) (hA _ _) | (constructor <;> omega)) (fun hc => ?_) (fun hc => ?_)
  ·
    exact (by omega : False).elim
  ·
    show XG _ _ 123 [some (.ref 107), some (zci (t)), some (zci (s)), some (zci (k)), some (zci (w)), some (zci (c)), some (zci ((-1))), some (zci ((-1))), some (zci (0)), some (zci (((t * 31) + w) * 3))] _ _ _
    refine xg_step rfl rfl (fun k => rfl) ?_
    refine xg_step rfl rfl (fun k => rfl) ?_
    refine xg_step rfl rfl (fun k => rfl) ?_
    refine xg_step rfl rfl (fun k => rfl) ?_
    refine xg_step rfl rfl (fun k => rfl) ?_
    refine xg_step rfl rfl (fun k => rfl) ?_
    refine xg_step rfl rfl (fun k => rfl) ?_
    show XG _ _ 194 [some (.ref 107), some (zci (t)), some (zci (s)), some (zci (k)), some (zci (w)), some (zci (c)), some (zci (0)), some (zci ((-1))), some (zci (0)), some (zci (((t * 31) + w) * 3))] _ _ _
    refine zg_inc (y := 1) rfl rfl (by decide) rfl ?_
    refine xg_step rfl rfl (fun k => rfl) ?_
    show XG _ _ 90 [some (.ref 107), some (zci (t)), some (zci (s)), some (zci (k)), some (zci (w)), some (zci (c)), some (zci (0)), some (zci ((-1))), some (zci (1)), some (zci (((t * 31) + w) * 3))] _ _ _
    refine xg_step rfl rfl (fun k => rfl) ?_
    refine xg_step rfl rfl (fun k => rfl) ?_
    refine xg_step rfl rfl (fun k => rfl) ?_
    refine xg_step rfl rfl (fun k => rfl) ?_
    refine zg_bi rfl (by decide) ?_
    refine zg_mul rfl ?_
    refine xg_step rfl rfl (fun k => rfl) ?_
    refine zg_add rfl ?_
    refine xg_step rfl rfl (fun k => rfl) ?_
    refine zg_mul rfl ?_
    refine xg_step rfl rfl (fun k => rfl) ?_
    show XG _ _ 107 [some (.ref 107), some (zci (t)), some (zci (s)), some (zci (k)), some (zci (w)), some (zci (c)), some (zci (0)), some (zci ((-1))), some (zci (1)), some (zci (((t * 31) + w) * 3))] _ _ _
    refine xg_step rfl rfl (fun k => rfl) ?_
    refine xg_get rfl rfl (zha (by decide)) zc_RefM rfl rfl ?_
    refine xg_step rfl rfl (fun k => rfl) ?_
    refine xg_step rfl rfl (fun k => rfl) ?_
    refine zg_add rfl ?_
    refine zg_ald (.inl ⟨rfl, rfl⟩) (zha (by decide)) zc_r_changeRead (by decide) ⟨by omega, by omega⟩ (zvC zk_changeRead (by omega)) ?_
    refine zg_eq0 rfl rfl (fun x k => rfl) (by first | assumption | exact hA _ _ | exact hB _ _ | exact hC _ _ | exact zrg_max (by assumption) (hA _ _) | (constructor <;> omega)) (fun hc => ?_) (fun hc => ?_)
    ·
      exact (by omega : False).elim
    ·
      show XG _ _ 123 [some (.ref 107), some (zci (t)), some (zci (s)), some (zci (k)), some (zci (w)), some (zci (c)), some (zci (0)), some (zci ((-1))), some (zci (1)), some (zci (((t * 31) + w) * 3))] _ _ _
      refine xg_step rfl rfl (fun k => rfl) ?_
      refine xg_step rfl rfl (fun k => rfl) ?_
      refine xg_step rfl rfl (fun k => rfl) ?_
      refine xg_get rfl rfl (zha (by decide)) zc_RefM rfl rfl ?_
      refine xg_step rfl rfl (fun k => rfl) ?_
      refine xg_step rfl rfl (fun k => rfl) ?_
      refine zg_add rfl ?_
      refine zg_ald (.inl ⟨rfl, rfl⟩) (zha (by decide)) zc_r_changeRead (by decide) ⟨by omega, by omega⟩ (zvC zk_changeRead (by omega)) ?_
      refine xg_step rfl rfl (fun k => rfl) ?_
      refine xg_get rfl rfl (zha (by decide)) zc_RefM rfl rfl ?_
      refine xg_step rfl rfl (fun k => rfl) ?_
      refine xg_step rfl rfl (fun k => rfl) ?_
      refine zg_add rfl ?_
      refine zg_ald (.inl ⟨rfl, rfl⟩) (zha (by decide)) zc_r_changeRead (by decide) ⟨by omega, by omega⟩ (zvC zk_changeRead (by omega)) ?_
      refine zg_lt rfl rfl (fun x y k => rfl) (by first | assumption | exact hA _ _ | exact hB _ _ | exact hC _ _ | exact zrg_max (by assumption) (hA _ _) | (constructor <;> omega)) (by first | assumption | exact hA _ _ | exact hB _ _ | exact hC _ _ | exact zrg_max (by assumption) (hA _ _) | (constructor <;> omega)) (fun hc => ?_) (fun hc => ?_)
      ·
        refine xg_step rfl rfl (fun k => rfl) ?_
        refine xg_step rfl rfl (fun k => rfl) ?_
        refine xg_step rfl rfl (fun k => rfl) ?_
        refine xg_step rfl rfl (fun k => rfl) ?_
        refine xg_step rfl rfl (fun k => rfl) ?_
        show XG _ _ 194 [some (.ref 107), some (zci (t)), some (zci (s)), some (zci (k)), some (zci (w)), some (zci (c)), some (zci (1)), some (zci (0)), some (zci (1)), some (zci (((t * 31) + w) * 3))] _ _ _
        refine zg_inc (y := 2) rfl rfl (by decide) rfl ?_
        refine xg_step rfl rfl (fun k => rfl) ?_
        show XG _ _ 90 [some (.ref 107), some (zci (t)), some (zci (s)), some (zci (k)), some (zci (w)), some (zci (c)), some (zci (1)), some (zci (0)), some (zci (2)), some (zci (((t * 31) + w) * 3))] _ _ _
        refine xg_step rfl rfl (fun k => rfl) ?_
        refine xg_step rfl rfl (fun k => rfl) ?_
        refine xg_step rfl rfl (fun k => rfl) ?_
        refine xg_step rfl rfl (fun k => rfl) ?_
        refine zg_bi rfl (by decide) ?_
        refine zg_mul rfl ?_
        refine xg_step rfl rfl (fun k => rfl) ?_
        refine zg_add rfl ?_
        refine xg_step rfl rfl (fun k => rfl) ?_
        refine zg_mul rfl ?_
        refine xg_step rfl rfl (fun k => rfl) ?_
        show XG _ _ 107 [some (.ref 107), some (zci (t)), some (zci (s)), some (zci (k)), some (zci (w)), some (zci (c)), some (zci (1)), some (zci (0)), some (zci (2)), some (zci (((t * 31) + w) * 3))] _ _ _
        refine xg_step rfl rfl (fun k => rfl) ?_
        refine xg_get rfl rfl (zha (by decide)) zc_RefM rfl rfl ?_
        refine xg_step rfl rfl (fun k => rfl) ?_
        refine xg_step rfl rfl (fun k => rfl) ?_
        refine zg_add rfl ?_
        refine zg_ald (.inl ⟨rfl, rfl⟩) (zha (by decide)) zc_r_changeRead (by decide) ⟨by omega, by omega⟩ (zvC zk_changeRead (by omega)) ?_
        refine zg_eq0 rfl rfl (fun x k => rfl) (by first | assumption | exact hA _ _ | exact hB _ _ | exact hC _ _ | exact zrg_max (by assumption) (hA _ _) | (constructor <;> omega)) (fun hc => ?_) (fun hc => ?_)
        ·
          refine xg_step rfl rfl (fun k => rfl) ?_
          show XG _ _ 194 [some (.ref 107), some (zci (t)), some (zci (s)), some (zci (k)), some (zci (w)), some (zci (c)), some (zci (1)), some (zci (0)), some (zci (2)), some (zci (((t * 31) + w) * 3))] _ _ _
          refine zg_inc (y := 3) rfl rfl (by decide) rfl ?_
          refine xg_step rfl rfl (fun k => rfl) ?_
          show XG _ _ 90 [some (.ref 107), some (zci (t)), some (zci (s)), some (zci (k)), some (zci (w)), some (zci (c)), some (zci (1)), some (zci (0)), some (zci (3)), some (zci (((t * 31) + w) * 3))] _ _ _
          refine xg_step rfl rfl (fun k => rfl) ?_
          refine xg_step rfl rfl (fun k => rfl) ?_
          refine xg_step rfl rfl (fun k => rfl) ?_
          show XG _ _ 200 [some (.ref 107), some (zci (t)), some (zci (s)), some (zci (k)), some (zci (w)), some (zci (c)), some (zci (1)), some (zci (0)), some (zci (3)), some (zci (((t * 31) + w) * 3))] _ _ _
          refine xg_step rfl rfl (fun k => rfl) ?_
          refine xg_step rfl rfl (fun k => rfl) ?_
          refine xg_step rfl rfl (fun k => rfl) ?_
          refine zg_bi rfl (by decide) ?_
          refine zg_mul rfl ?_
          refine xg_step rfl rfl (fun k => rfl) ?_
          refine zg_add rfl ?_
          refine xg_step rfl rfl (fun k => rfl) ?_
          refine zg_mul rfl ?_
          refine xg_step rfl rfl (fun k => rfl) ?_
          show XG _ _ 217 [some (.ref 107), some (zci (t)), some (zci (s)), some (zci (k)), some (zci (w)), some (zci (c)), some (zci (1)), some (zci (0)), some (zci (((t * 31) + w) * 3)), some (zci (((t * 31) + w) * 3))] _ _ _
          refine xg_step rfl rfl (fun k => rfl) ?_
          refine xg_step rfl rfl (fun k => rfl) ?_
          refine xg_step rfl rfl (fun k => rfl) ?_
          refine xg_step rfl rfl (fun k => rfl) ?_
          refine xg_step rfl rfl (fun k => rfl) ?_
          refine xg_step rfl rfl (fun k => rfl) ?_
          refine xg_get rfl rfl (zha (by decide)) zc_RefM rfl rfl ?_
          refine xg_step rfl rfl (fun k => rfl) ?_
          refine xg_step rfl rfl (fun k => rfl) ?_
          refine zg_add rfl ?_
          refine zg_ald (.inl ⟨rfl, rfl⟩) (zha (by decide)) zc_r_changeNumber (by decide) ⟨by omega, by omega⟩ (zvC zk_changeNumber (by omega)) ?_
          refine zg_mul rfl ?_
          refine xg_step rfl rfl (fun k => rfl) ?_
          refine zg_add rfl ?_
          refine xg_step rfl rfl (fun k => rfl) ?_
          refine xg_step rfl rfl (fun k => rfl) ?_
          refine xg_get rfl rfl (zha (by decide)) zc_RefM rfl rfl ?_
          refine xg_step rfl rfl (fun k => rfl) ?_
          refine xg_step rfl rfl (fun k => rfl) ?_
          refine zg_add rfl ?_
          refine zg_ald (.inl ⟨rfl, rfl⟩) (zha (by decide)) zc_r_changeNumber (by decide) ⟨by omega, by omega⟩ (zvC zk_changeNumber (by omega)) ?_
          refine zg_mul rfl ?_
          refine xg_step rfl rfl (fun k => rfl) ?_
          refine zg_add rfl ?_
          rw [show (3 * (C 143 ((((t * 31) + w) * 3) + 1))) + 1 = f from by omega, show (3 * (C 143 ((((t * 31) + w) * 3) + 0))) + 0 = g from by omega]
          refine zg_cvi rfl rfl rfl (Nat.le_of_ble_eq_true rfl) (zha (by decide)) zc_RefM rfl rfl hmid ?_
          refine xg_step rfl rfl (fun k => rfl) ?_
          exact zg_ret rfl rfl rfl
        ·
          exact (by omega : False).elim
      ·
        exact (by omega : False).elim
set_option maxRecDepth 10000 in
theorem zm_125_101 {d : Nat} {A B C : ZM} (hB : zRg B) (hC : zRg C) {t s k w c f g : Int} (ht : 0 ≤ t ∧ t < 3) (hw : 0 ≤ w ∧ w < 31) {o6 o7 o8 o9 : Option Value} (h : zc2 C t w 1 0 2 f g) (hz : C 142 ((t * 31 + w) * 3 + 0) < C 142 ((t * 31 + w) * 3 + 2)) {B2 C2 : ZM} {rv : Int} (hmid : XR (d + 1) 121 [.ref 107, zci t, zci 3, zci w, zci f, zci g] (zhp A (zmg B C)) (some (zci rv), zhp A (zmg B2 C2))) : XG (d + 1) 125 81 [some (.ref 107), some (zci t), some (zci s), some (zci k), some (zci w), some (zci c), o6, o7, o8, o9] [] (zhp A (zmg B C)) (none, zhp A (zmg B2 C2)) := by
  obtain ⟨h1, h2, h3, h4, -, h6, h7⟩ := h
  refine xg_step rfl rfl (fun k => rfl) ?_
  refine xg_step rfl rfl (fun k => rfl) ?_
  refine xg_step rfl rfl (fun k => rfl) ?_
  refine xg_step rfl rfl (fun k => rfl) ?_
  refine xg_step rfl rfl (fun k => rfl) ?_
  refine xg_step rfl rfl (fun k => rfl) ?_
  show XG _ _ 90 [some (.ref 107), some (zci (t)), some (zci (s)), some (zci (k)), some (zci (w)), some (zci (c)), some (zci ((-1))), some (zci ((-1))), some (zci (0)), o9] _ _ _
  refine xg_step rfl rfl (fun k => rfl) ?_
  refine xg_step rfl rfl (fun k => rfl) ?_
  refine xg_step rfl rfl (fun k => rfl) ?_
  refine xg_step rfl rfl (fun k => rfl) ?_
  refine zg_bi rfl (by decide) ?_
  refine zg_mul rfl ?_
  refine xg_step rfl rfl (fun k => rfl) ?_
  refine zg_add rfl ?_
  refine xg_step rfl rfl (fun k => rfl) ?_
  refine zg_mul rfl ?_
  refine xg_step rfl rfl (fun k => rfl) ?_
  show XG _ _ 107 [some (.ref 107), some (zci (t)), some (zci (s)), some (zci (k)), some (zci (w)), some (zci (c)), some (zci ((-1))), some (zci ((-1))), some (zci (0)), some (zci (((t * 31) + w) * 3))] _ _ _
  refine xg_step rfl rfl (fun k => rfl) ?_
  refine xg_get rfl rfl (zha (by decide)) zc_RefM rfl rfl ?_
  refine xg_step rfl rfl (fun k => rfl) ?_
  refine xg_step rfl rfl (fun k => rfl) ?_
  refine zg_add rfl ?_
  refine zg_ald (.inl ⟨rfl, rfl⟩) (zha (by decide)) zc_r_changeRead (by decide) ⟨by omega, by omega⟩ (zvC zk_changeRead (by omega)) ?_
  refine zg_eq0 rfl rfl (fun x k => rfl) (by first | assumption | exact hA _ _ | exact hB _ _ | exact hC _ _ | exact zrg_max (by assumption) (hA _ _) | (constructor <;> omega)) (fun hc => ?_) (fun hc => ?_)
  ·
    exact (by omega : False).elim
  ·
    show XG _ _ 123 [some (.ref 107), some (zci (t)), some (zci (s)), some (zci (k)), some (zci (w)), some (zci (c)), some (zci ((-1))), some (zci ((-1))), some (zci (0)), some (zci (((t * 31) + w) * 3))] _ _ _
    refine xg_step rfl rfl (fun k => rfl) ?_
    refine xg_step rfl rfl (fun k => rfl) ?_
    refine xg_step rfl rfl (fun k => rfl) ?_
    refine xg_step rfl rfl (fun k => rfl) ?_
    refine xg_step rfl rfl (fun k => rfl) ?_
    refine xg_step rfl rfl (fun k => rfl) ?_
    refine xg_step rfl rfl (fun k => rfl) ?_
    show XG _ _ 194 [some (.ref 107), some (zci (t)), some (zci (s)), some (zci (k)), some (zci (w)), some (zci (c)), some (zci (0)), some (zci ((-1))), some (zci (0)), some (zci (((t * 31) + w) * 3))] _ _ _
    refine zg_inc (y := 1) rfl rfl (by decide) rfl ?_
    refine xg_step rfl rfl (fun k => rfl) ?_
    show XG _ _ 90 [some (.ref 107), some (zci (t)), some (zci (s)), some (zci (k)), some (zci (w)), some (zci (c)), some (zci (0)), some (zci ((-1))), some (zci (1)), some (zci (((t * 31) + w) * 3))] _ _ _
    refine xg_step rfl rfl (fun k => rfl) ?_
    refine xg_step rfl rfl (fun k => rfl) ?_
    refine xg_step rfl rfl (fun k => rfl) ?_
    refine xg_step rfl rfl (fun k => rfl) ?_
    refine zg_bi rfl (by decide) ?_
    refine zg_mul rfl ?_
    refine xg_step rfl rfl (fun k => rfl) ?_
    refine zg_add rfl ?_
    refine xg_step rfl rfl (fun k => rfl) ?_
    refine zg_mul rfl ?_
    refine xg_step rfl rfl (fun k => rfl) ?_
    show XG _ _ 107 [some (.ref 107), some (zci (t)), some (zci (s)), some (zci (k)), some (zci (w)), some (zci (c)), some (zci (0)), some (zci ((-1))), some (zci (1)), some (zci (((t * 31) + w) * 3))] _ _ _
    refine xg_step rfl rfl (fun k => rfl) ?_
    refine xg_get rfl rfl (zha (by decide)) zc_RefM rfl rfl ?_
    refine xg_step rfl rfl (fun k => rfl) ?_
    refine xg_step rfl rfl (fun k => rfl) ?_
    refine zg_add rfl ?_
    refine zg_ald (.inl ⟨rfl, rfl⟩) (zha (by decide)) zc_r_changeRead (by decide) ⟨by omega, by omega⟩ (zvC zk_changeRead (by omega)) ?_
    refine zg_eq0 rfl rfl (fun x k => rfl) (by first | assumption | exact hA _ _ | exact hB _ _ | exact hC _ _ | exact zrg_max (by assumption) (hA _ _) | (constructor <;> omega)) (fun hc => ?_) (fun hc => ?_)
    ·
      exact (by omega : False).elim
    ·
      show XG _ _ 123 [some (.ref 107), some (zci (t)), some (zci (s)), some (zci (k)), some (zci (w)), some (zci (c)), some (zci (0)), some (zci ((-1))), some (zci (1)), some (zci (((t * 31) + w) * 3))] _ _ _
      refine xg_step rfl rfl (fun k => rfl) ?_
      refine xg_step rfl rfl (fun k => rfl) ?_
      refine xg_step rfl rfl (fun k => rfl) ?_
      refine xg_get rfl rfl (zha (by decide)) zc_RefM rfl rfl ?_
      refine xg_step rfl rfl (fun k => rfl) ?_
      refine xg_step rfl rfl (fun k => rfl) ?_
      refine zg_add rfl ?_
      refine zg_ald (.inl ⟨rfl, rfl⟩) (zha (by decide)) zc_r_changeRead (by decide) ⟨by omega, by omega⟩ (zvC zk_changeRead (by omega)) ?_
      refine xg_step rfl rfl (fun k => rfl) ?_
      refine xg_get rfl rfl (zha (by decide)) zc_RefM rfl rfl ?_
      refine xg_step rfl rfl (fun k => rfl) ?_
      refine xg_step rfl rfl (fun k => rfl) ?_
      refine zg_add rfl ?_
      refine zg_ald (.inl ⟨rfl, rfl⟩) (zha (by decide)) zc_r_changeRead (by decide) ⟨by omega, by omega⟩ (zvC zk_changeRead (by omega)) ?_
      refine zg_lt rfl rfl (fun x y k => rfl) (by first | assumption | exact hA _ _ | exact hB _ _ | exact hC _ _ | exact zrg_max (by assumption) (hA _ _) | (constructor <;> omega)) (by first | assumption | exact hA _ _ | exact hB _ _ | exact hC _ _ | exact zrg_max (by assumption) (hA _ _) | (constructor <;> omega)) (fun hc => ?_) (fun hc => ?_)
      ·
        refine xg_step rfl rfl (fun k => rfl) ?_
        refine xg_step rfl rfl (fun k => rfl) ?_
        refine xg_step rfl rfl (fun k => rfl) ?_
        refine xg_step rfl rfl (fun k => rfl) ?_
        refine xg_step rfl rfl (fun k => rfl) ?_
        show XG _ _ 194 [some (.ref 107), some (zci (t)), some (zci (s)), some (zci (k)), some (zci (w)), some (zci (c)), some (zci (1)), some (zci (0)), some (zci (1)), some (zci (((t * 31) + w) * 3))] _ _ _
        refine zg_inc (y := 2) rfl rfl (by decide) rfl ?_
        refine xg_step rfl rfl (fun k => rfl) ?_
        show XG _ _ 90 [some (.ref 107), some (zci (t)), some (zci (s)), some (zci (k)), some (zci (w)), some (zci (c)), some (zci (1)), some (zci (0)), some (zci (2)), some (zci (((t * 31) + w) * 3))] _ _ _
        refine xg_step rfl rfl (fun k => rfl) ?_
        refine xg_step rfl rfl (fun k => rfl) ?_
        refine xg_step rfl rfl (fun k => rfl) ?_
        refine xg_step rfl rfl (fun k => rfl) ?_
        refine zg_bi rfl (by decide) ?_
        refine zg_mul rfl ?_
        refine xg_step rfl rfl (fun k => rfl) ?_
        refine zg_add rfl ?_
        refine xg_step rfl rfl (fun k => rfl) ?_
        refine zg_mul rfl ?_
        refine xg_step rfl rfl (fun k => rfl) ?_
        show XG _ _ 107 [some (.ref 107), some (zci (t)), some (zci (s)), some (zci (k)), some (zci (w)), some (zci (c)), some (zci (1)), some (zci (0)), some (zci (2)), some (zci (((t * 31) + w) * 3))] _ _ _
        refine xg_step rfl rfl (fun k => rfl) ?_
        refine xg_get rfl rfl (zha (by decide)) zc_RefM rfl rfl ?_
        refine xg_step rfl rfl (fun k => rfl) ?_
        refine xg_step rfl rfl (fun k => rfl) ?_
        refine zg_add rfl ?_
        refine zg_ald (.inl ⟨rfl, rfl⟩) (zha (by decide)) zc_r_changeRead (by decide) ⟨by omega, by omega⟩ (zvC zk_changeRead (by omega)) ?_
        refine zg_eq0 rfl rfl (fun x k => rfl) (by first | assumption | exact hA _ _ | exact hB _ _ | exact hC _ _ | exact zrg_max (by assumption) (hA _ _) | (constructor <;> omega)) (fun hc => ?_) (fun hc => ?_)
        ·
          exact (by omega : False).elim
        ·
          show XG _ _ 123 [some (.ref 107), some (zci (t)), some (zci (s)), some (zci (k)), some (zci (w)), some (zci (c)), some (zci (1)), some (zci (0)), some (zci (2)), some (zci (((t * 31) + w) * 3))] _ _ _
          refine xg_step rfl rfl (fun k => rfl) ?_
          refine xg_step rfl rfl (fun k => rfl) ?_
          refine xg_step rfl rfl (fun k => rfl) ?_
          refine xg_get rfl rfl (zha (by decide)) zc_RefM rfl rfl ?_
          refine xg_step rfl rfl (fun k => rfl) ?_
          refine xg_step rfl rfl (fun k => rfl) ?_
          refine zg_add rfl ?_
          refine zg_ald (.inl ⟨rfl, rfl⟩) (zha (by decide)) zc_r_changeRead (by decide) ⟨by omega, by omega⟩ (zvC zk_changeRead (by omega)) ?_
          refine xg_step rfl rfl (fun k => rfl) ?_
          refine xg_get rfl rfl (zha (by decide)) zc_RefM rfl rfl ?_
          refine xg_step rfl rfl (fun k => rfl) ?_
          refine xg_step rfl rfl (fun k => rfl) ?_
          refine zg_add rfl ?_
          refine zg_ald (.inl ⟨rfl, rfl⟩) (zha (by decide)) zc_r_changeRead (by decide) ⟨by omega, by omega⟩ (zvC zk_changeRead (by omega)) ?_
          refine zg_lt rfl rfl (fun x y k => rfl) (by first | assumption | exact hA _ _ | exact hB _ _ | exact hC _ _ | exact zrg_max (by assumption) (hA _ _) | (constructor <;> omega)) (by first | assumption | exact hA _ _ | exact hB _ _ | exact hC _ _ | exact zrg_max (by assumption) (hA _ _) | (constructor <;> omega)) (fun hc => ?_) (fun hc => ?_)
          ·
            exact (by omega : False).elim
          ·
            show XG _ _ 162 [some (.ref 107), some (zci (t)), some (zci (s)), some (zci (k)), some (zci (w)), some (zci (c)), some (zci (1)), some (zci (0)), some (zci (2)), some (zci (((t * 31) + w) * 3))] _ _ _
            refine xg_step rfl rfl (fun k => rfl) ?_
            refine xg_step rfl rfl (fun k => rfl) ?_
            refine xg_step rfl rfl (fun k => rfl) ?_
            refine xg_get rfl rfl (zha (by decide)) zc_RefM rfl rfl ?_
            refine xg_step rfl rfl (fun k => rfl) ?_
            refine xg_step rfl rfl (fun k => rfl) ?_
            refine zg_add rfl ?_
            refine zg_ald (.inl ⟨rfl, rfl⟩) (zha (by decide)) zc_r_changeRead (by decide) ⟨by omega, by omega⟩ (zvC zk_changeRead (by omega)) ?_
            refine xg_step rfl rfl (fun k => rfl) ?_
            refine xg_get rfl rfl (zha (by decide)) zc_RefM rfl rfl ?_
            refine xg_step rfl rfl (fun k => rfl) ?_
            refine xg_step rfl rfl (fun k => rfl) ?_
            refine zg_add rfl ?_
            refine zg_ald (.inl ⟨rfl, rfl⟩) (zha (by decide)) zc_r_changeRead (by decide) ⟨by omega, by omega⟩ (zvC zk_changeRead (by omega)) ?_
            refine zg_lt rfl rfl (fun x y k => rfl) (by first | assumption | exact hA _ _ | exact hB _ _ | exact hC _ _ | exact zrg_max (by assumption) (hA _ _) | (constructor <;> omega)) (by first | assumption | exact hA _ _ | exact hB _ _ | exact hC _ _ | exact zrg_max (by assumption) (hA _ _) | (constructor <;> omega)) (fun hc => ?_) (fun hc => ?_)
            ·
              exact (by omega : False).elim
            ·
              show XG _ _ 194 [some (.ref 107), some (zci (t)), some (zci (s)), some (zci (k)), some (zci (w)), some (zci (c)), some (zci (1)), some (zci (0)), some (zci (2)), some (zci (((t * 31) + w) * 3))] _ _ _
              refine zg_inc (y := 3) rfl rfl (by decide) rfl ?_
              refine xg_step rfl rfl (fun k => rfl) ?_
              show XG _ _ 90 [some (.ref 107), some (zci (t)), some (zci (s)), some (zci (k)), some (zci (w)), some (zci (c)), some (zci (1)), some (zci (0)), some (zci (3)), some (zci (((t * 31) + w) * 3))] _ _ _
              refine xg_step rfl rfl (fun k => rfl) ?_
              refine xg_step rfl rfl (fun k => rfl) ?_
              refine xg_step rfl rfl (fun k => rfl) ?_
              show XG _ _ 200 [some (.ref 107), some (zci (t)), some (zci (s)), some (zci (k)), some (zci (w)), some (zci (c)), some (zci (1)), some (zci (0)), some (zci (3)), some (zci (((t * 31) + w) * 3))] _ _ _
              refine xg_step rfl rfl (fun k => rfl) ?_
              refine xg_step rfl rfl (fun k => rfl) ?_
              refine xg_step rfl rfl (fun k => rfl) ?_
              refine zg_bi rfl (by decide) ?_
              refine zg_mul rfl ?_
              refine xg_step rfl rfl (fun k => rfl) ?_
              refine zg_add rfl ?_
              refine xg_step rfl rfl (fun k => rfl) ?_
              refine zg_mul rfl ?_
              refine xg_step rfl rfl (fun k => rfl) ?_
              show XG _ _ 217 [some (.ref 107), some (zci (t)), some (zci (s)), some (zci (k)), some (zci (w)), some (zci (c)), some (zci (1)), some (zci (0)), some (zci (((t * 31) + w) * 3)), some (zci (((t * 31) + w) * 3))] _ _ _
              refine xg_step rfl rfl (fun k => rfl) ?_
              refine xg_step rfl rfl (fun k => rfl) ?_
              refine xg_step rfl rfl (fun k => rfl) ?_
              refine xg_step rfl rfl (fun k => rfl) ?_
              refine xg_step rfl rfl (fun k => rfl) ?_
              refine xg_step rfl rfl (fun k => rfl) ?_
              refine xg_get rfl rfl (zha (by decide)) zc_RefM rfl rfl ?_
              refine xg_step rfl rfl (fun k => rfl) ?_
              refine xg_step rfl rfl (fun k => rfl) ?_
              refine zg_add rfl ?_
              refine zg_ald (.inl ⟨rfl, rfl⟩) (zha (by decide)) zc_r_changeNumber (by decide) ⟨by omega, by omega⟩ (zvC zk_changeNumber (by omega)) ?_
              refine zg_mul rfl ?_
              refine xg_step rfl rfl (fun k => rfl) ?_
              refine zg_add rfl ?_
              refine xg_step rfl rfl (fun k => rfl) ?_
              refine xg_step rfl rfl (fun k => rfl) ?_
              refine xg_get rfl rfl (zha (by decide)) zc_RefM rfl rfl ?_
              refine xg_step rfl rfl (fun k => rfl) ?_
              refine xg_step rfl rfl (fun k => rfl) ?_
              refine zg_add rfl ?_
              refine zg_ald (.inl ⟨rfl, rfl⟩) (zha (by decide)) zc_r_changeNumber (by decide) ⟨by omega, by omega⟩ (zvC zk_changeNumber (by omega)) ?_
              refine zg_mul rfl ?_
              refine xg_step rfl rfl (fun k => rfl) ?_
              refine zg_add rfl ?_
              rw [show (3 * (C 143 ((((t * 31) + w) * 3) + 1))) + 1 = f from by omega, show (3 * (C 143 ((((t * 31) + w) * 3) + 0))) + 0 = g from by omega]
              refine zg_cvi rfl rfl rfl (Nat.le_of_ble_eq_true rfl) (zha (by decide)) zc_RefM rfl rfl hmid ?_
              refine xg_step rfl rfl (fun k => rfl) ?_
              exact zg_ret rfl rfl rfl
      ·
        exact (by omega : False).elim
set_option maxRecDepth 10000 in
theorem zm_125_120 {d : Nat} {A B C : ZM} (hB : zRg B) (hC : zRg C) {t s k w c f g : Int} (ht : 0 ≤ t ∧ t < 3) (hw : 0 ≤ w ∧ w < 31) {o6 o7 o8 o9 : Option Value} (h : zc2 C t w 1 2 0 f g) (hz : C 142 ((t * 31 + w) * 3 + 0) = 0) {B2 C2 : ZM} {rv : Int} (hmid : XR (d + 1) 121 [.ref 107, zci t, zci 3, zci w, zci f, zci g] (zhp A (zmg B C)) (some (zci rv), zhp A (zmg B2 C2))) : XG (d + 1) 125 81 [some (.ref 107), some (zci t), some (zci s), some (zci k), some (zci w), some (zci c), o6, o7, o8, o9] [] (zhp A (zmg B C)) (none, zhp A (zmg B2 C2)) := by
  obtain ⟨h1, h2, h3, h4, -, h6, h7⟩ := h
  refine xg_step rfl rfl (fun k => rfl) ?_
  refine xg_step rfl rfl (fun k => rfl) ?_
  refine xg_step rfl rfl (fun k => rfl) ?_
  refine xg_step rfl rfl (fun k => rfl) ?_
  refine xg_step rfl rfl (fun k => rfl) ?_
  refine xg_step rfl rfl (fun k => rfl) ?_
  show XG _ _ 90 [some (.ref 107), some (zci (t)), some (zci (s)), some (zci (k)), some (zci (w)), some (zci (c)), some (zci ((-1))), some (zci ((-1))), some (zci (0)), o9] _ _ _
  refine xg_step rfl rfl (fun k => rfl) ?_
  refine xg_step rfl rfl (fun k => rfl) ?_
  refine xg_step rfl rfl (fun k => rfl) ?_
  refine xg_step rfl rfl (fun k => rfl) ?_
  refine zg_bi rfl (by decide) ?_
  refine zg_mul rfl ?_
  refine xg_step rfl rfl (fun k => rfl) ?_
  refine zg_add rfl ?_
  refine xg_step rfl rfl (fun k => rfl) ?_
  refine zg_mul rfl ?_
  refine xg_step rfl rfl (fun k => rfl) ?_
  show XG _ _ 107 [some (.ref 107), some (zci (t)), some (zci (s)), some (zci (k)), some (zci (w)), some (zci (c)), some (zci ((-1))), some (zci ((-1))), some (zci (0)), some (zci (((t * 31) + w) * 3))] _ _ _
  refine xg_step rfl rfl (fun k => rfl) ?_
  refine xg_get rfl rfl (zha (by decide)) zc_RefM rfl rfl ?_
  refine xg_step rfl rfl (fun k => rfl) ?_
  refine xg_step rfl rfl (fun k => rfl) ?_
  refine zg_add rfl ?_
  refine zg_ald (.inl ⟨rfl, rfl⟩) (zha (by decide)) zc_r_changeRead (by decide) ⟨by omega, by omega⟩ (zvC zk_changeRead (by omega)) ?_
  refine zg_eq0 rfl rfl (fun x k => rfl) (by first | assumption | exact hA _ _ | exact hB _ _ | exact hC _ _ | exact zrg_max (by assumption) (hA _ _) | (constructor <;> omega)) (fun hc => ?_) (fun hc => ?_)
  ·
    refine xg_step rfl rfl (fun k => rfl) ?_
    show XG _ _ 194 [some (.ref 107), some (zci (t)), some (zci (s)), some (zci (k)), some (zci (w)), some (zci (c)), some (zci ((-1))), some (zci ((-1))), some (zci (0)), some (zci (((t * 31) + w) * 3))] _ _ _
    refine zg_inc (y := 1) rfl rfl (by decide) rfl ?_
    refine xg_step rfl rfl (fun k => rfl) ?_
    show XG _ _ 90 [some (.ref 107), some (zci (t)), some (zci (s)), some (zci (k)), some (zci (w)), some (zci (c)), some (zci ((-1))), some (zci ((-1))), some (zci (1)), some (zci (((t * 31) + w) * 3))] _ _ _
    refine xg_step rfl rfl (fun k => rfl) ?_
    refine xg_step rfl rfl (fun k => rfl) ?_
    refine xg_step rfl rfl (fun k => rfl) ?_
    refine xg_step rfl rfl (fun k => rfl) ?_
    refine zg_bi rfl (by decide) ?_
    refine zg_mul rfl ?_
    refine xg_step rfl rfl (fun k => rfl) ?_
    refine zg_add rfl ?_
    refine xg_step rfl rfl (fun k => rfl) ?_
    refine zg_mul rfl ?_
    refine xg_step rfl rfl (fun k => rfl) ?_
    show XG _ _ 107 [some (.ref 107), some (zci (t)), some (zci (s)), some (zci (k)), some (zci (w)), some (zci (c)), some (zci ((-1))), some (zci ((-1))), some (zci (1)), some (zci (((t * 31) + w) * 3))] _ _ _
    refine xg_step rfl rfl (fun k => rfl) ?_
    refine xg_get rfl rfl (zha (by decide)) zc_RefM rfl rfl ?_
    refine xg_step rfl rfl (fun k => rfl) ?_
    refine xg_step rfl rfl (fun k => rfl) ?_
    refine zg_add rfl ?_
    refine zg_ald (.inl ⟨rfl, rfl⟩) (zha (by decide)) zc_r_changeRead (by decide) ⟨by omega, by omega⟩ (zvC zk_changeRead (by omega)) ?_
    refine zg_eq0 rfl rfl (fun x k => rfl) (by first | assumption | exact hA _ _ | exact hB _ _ | exact hC _ _ | exact zrg_max (by assumption) (hA _ _) | (constructor <;> omega)) (fun hc => ?_) (fun hc => ?_)
    ·
      exact (by omega : False).elim
    ·
      show XG _ _ 123 [some (.ref 107), some (zci (t)), some (zci (s)), some (zci (k)), some (zci (w)), some (zci (c)), some (zci ((-1))), some (zci ((-1))), some (zci (1)), some (zci (((t * 31) + w) * 3))] _ _ _
      refine xg_step rfl rfl (fun k => rfl) ?_
      refine xg_step rfl rfl (fun k => rfl) ?_
      refine xg_step rfl rfl (fun k => rfl) ?_
      refine xg_step rfl rfl (fun k => rfl) ?_
      refine xg_step rfl rfl (fun k => rfl) ?_
      refine xg_step rfl rfl (fun k => rfl) ?_
      refine xg_step rfl rfl (fun k => rfl) ?_
      show XG _ _ 194 [some (.ref 107), some (zci (t)), some (zci (s)), some (zci (k)), some (zci (w)), some (zci (c)), some (zci (1)), some (zci ((-1))), some (zci (1)), some (zci (((t * 31) + w) * 3))] _ _ _
      refine zg_inc (y := 2) rfl rfl (by decide) rfl ?_
      refine xg_step rfl rfl (fun k => rfl) ?_
      show XG _ _ 90 [some (.ref 107), some (zci (t)), some (zci (s)), some (zci (k)), some (zci (w)), some (zci (c)), some (zci (1)), some (zci ((-1))), some (zci (2)), some (zci (((t * 31) + w) * 3))] _ _ _
      refine xg_step rfl rfl (fun k => rfl) ?_
      refine xg_step rfl rfl (fun k => rfl) ?_
      refine xg_step rfl rfl (fun k => rfl) ?_
      refine xg_step rfl rfl (fun k => rfl) ?_
      refine zg_bi rfl (by decide) ?_
      refine zg_mul rfl ?_
      refine xg_step rfl rfl (fun k => rfl) ?_
      refine zg_add rfl ?_
      refine xg_step rfl rfl (fun k => rfl) ?_
      refine zg_mul rfl ?_
      refine xg_step rfl rfl (fun k => rfl) ?_
      show XG _ _ 107 [some (.ref 107), some (zci (t)), some (zci (s)), some (zci (k)), some (zci (w)), some (zci (c)), some (zci (1)), some (zci ((-1))), some (zci (2)), some (zci (((t * 31) + w) * 3))] _ _ _
      refine xg_step rfl rfl (fun k => rfl) ?_
      refine xg_get rfl rfl (zha (by decide)) zc_RefM rfl rfl ?_
      refine xg_step rfl rfl (fun k => rfl) ?_
      refine xg_step rfl rfl (fun k => rfl) ?_
      refine zg_add rfl ?_
      refine zg_ald (.inl ⟨rfl, rfl⟩) (zha (by decide)) zc_r_changeRead (by decide) ⟨by omega, by omega⟩ (zvC zk_changeRead (by omega)) ?_
      refine zg_eq0 rfl rfl (fun x k => rfl) (by first | assumption | exact hA _ _ | exact hB _ _ | exact hC _ _ | exact zrg_max (by assumption) (hA _ _) | (constructor <;> omega)) (fun hc => ?_) (fun hc => ?_)
      ·
        exact (by omega : False).elim
      ·
        show XG _ _ 123 [some (.ref 107), some (zci (t)), some (zci (s)), some (zci (k)), some (zci (w)), some (zci (c)), some (zci (1)), some (zci ((-1))), some (zci (2)), some (zci (((t * 31) + w) * 3))] _ _ _
        refine xg_step rfl rfl (fun k => rfl) ?_
        refine xg_step rfl rfl (fun k => rfl) ?_
        refine xg_step rfl rfl (fun k => rfl) ?_
        refine xg_get rfl rfl (zha (by decide)) zc_RefM rfl rfl ?_
        refine xg_step rfl rfl (fun k => rfl) ?_
        refine xg_step rfl rfl (fun k => rfl) ?_
        refine zg_add rfl ?_
        refine zg_ald (.inl ⟨rfl, rfl⟩) (zha (by decide)) zc_r_changeRead (by decide) ⟨by omega, by omega⟩ (zvC zk_changeRead (by omega)) ?_
        refine xg_step rfl rfl (fun k => rfl) ?_
        refine xg_get rfl rfl (zha (by decide)) zc_RefM rfl rfl ?_
        refine xg_step rfl rfl (fun k => rfl) ?_
        refine xg_step rfl rfl (fun k => rfl) ?_
        refine zg_add rfl ?_
        refine zg_ald (.inl ⟨rfl, rfl⟩) (zha (by decide)) zc_r_changeRead (by decide) ⟨by omega, by omega⟩ (zvC zk_changeRead (by omega)) ?_
        refine zg_lt rfl rfl (fun x y k => rfl) (by first | assumption | exact hA _ _ | exact hB _ _ | exact hC _ _ | exact zrg_max (by assumption) (hA _ _) | (constructor <;> omega)) (by first | assumption | exact hA _ _ | exact hB _ _ | exact hC _ _ | exact zrg_max (by assumption) (hA _ _) | (constructor <;> omega)) (fun hc => ?_) (fun hc => ?_)
        ·
          exact (by omega : False).elim
        ·
          show XG _ _ 162 [some (.ref 107), some (zci (t)), some (zci (s)), some (zci (k)), some (zci (w)), some (zci (c)), some (zci (1)), some (zci ((-1))), some (zci (2)), some (zci (((t * 31) + w) * 3))] _ _ _
          refine xg_step rfl rfl (fun k => rfl) ?_
          refine xg_step rfl rfl (fun k => rfl) ?_
          refine xg_step rfl rfl (fun k => rfl) ?_
          refine xg_step rfl rfl (fun k => rfl) ?_
          show XG _ _ 194 [some (.ref 107), some (zci (t)), some (zci (s)), some (zci (k)), some (zci (w)), some (zci (c)), some (zci (1)), some (zci (2)), some (zci (2)), some (zci (((t * 31) + w) * 3))] _ _ _
          refine zg_inc (y := 3) rfl rfl (by decide) rfl ?_
          refine xg_step rfl rfl (fun k => rfl) ?_
          show XG _ _ 90 [some (.ref 107), some (zci (t)), some (zci (s)), some (zci (k)), some (zci (w)), some (zci (c)), some (zci (1)), some (zci (2)), some (zci (3)), some (zci (((t * 31) + w) * 3))] _ _ _
          refine xg_step rfl rfl (fun k => rfl) ?_
          refine xg_step rfl rfl (fun k => rfl) ?_
          refine xg_step rfl rfl (fun k => rfl) ?_
          show XG _ _ 200 [some (.ref 107), some (zci (t)), some (zci (s)), some (zci (k)), some (zci (w)), some (zci (c)), some (zci (1)), some (zci (2)), some (zci (3)), some (zci (((t * 31) + w) * 3))] _ _ _
          refine xg_step rfl rfl (fun k => rfl) ?_
          refine xg_step rfl rfl (fun k => rfl) ?_
          refine xg_step rfl rfl (fun k => rfl) ?_
          refine zg_bi rfl (by decide) ?_
          refine zg_mul rfl ?_
          refine xg_step rfl rfl (fun k => rfl) ?_
          refine zg_add rfl ?_
          refine xg_step rfl rfl (fun k => rfl) ?_
          refine zg_mul rfl ?_
          refine xg_step rfl rfl (fun k => rfl) ?_
          show XG _ _ 217 [some (.ref 107), some (zci (t)), some (zci (s)), some (zci (k)), some (zci (w)), some (zci (c)), some (zci (1)), some (zci (2)), some (zci (((t * 31) + w) * 3)), some (zci (((t * 31) + w) * 3))] _ _ _
          refine xg_step rfl rfl (fun k => rfl) ?_
          refine xg_step rfl rfl (fun k => rfl) ?_
          refine xg_step rfl rfl (fun k => rfl) ?_
          refine xg_step rfl rfl (fun k => rfl) ?_
          refine xg_step rfl rfl (fun k => rfl) ?_
          refine xg_step rfl rfl (fun k => rfl) ?_
          refine xg_get rfl rfl (zha (by decide)) zc_RefM rfl rfl ?_
          refine xg_step rfl rfl (fun k => rfl) ?_
          refine xg_step rfl rfl (fun k => rfl) ?_
          refine zg_add rfl ?_
          refine zg_ald (.inl ⟨rfl, rfl⟩) (zha (by decide)) zc_r_changeNumber (by decide) ⟨by omega, by omega⟩ (zvC zk_changeNumber (by omega)) ?_
          refine zg_mul rfl ?_
          refine xg_step rfl rfl (fun k => rfl) ?_
          refine zg_add rfl ?_
          refine xg_step rfl rfl (fun k => rfl) ?_
          refine xg_step rfl rfl (fun k => rfl) ?_
          refine xg_get rfl rfl (zha (by decide)) zc_RefM rfl rfl ?_
          refine xg_step rfl rfl (fun k => rfl) ?_
          refine xg_step rfl rfl (fun k => rfl) ?_
          refine zg_add rfl ?_
          refine zg_ald (.inl ⟨rfl, rfl⟩) (zha (by decide)) zc_r_changeNumber (by decide) ⟨by omega, by omega⟩ (zvC zk_changeNumber (by omega)) ?_
          refine zg_mul rfl ?_
          refine xg_step rfl rfl (fun k => rfl) ?_
          refine zg_add rfl ?_
          rw [show (3 * (C 143 ((((t * 31) + w) * 3) + 1))) + 1 = f from by omega, show (3 * (C 143 ((((t * 31) + w) * 3) + 2))) + 2 = g from by omega]
          refine zg_cvi rfl rfl rfl (Nat.le_of_ble_eq_true rfl) (zha (by decide)) zc_RefM rfl rfl hmid ?_
          refine xg_step rfl rfl (fun k => rfl) ?_
          exact zg_ret rfl rfl rfl
  ·
    exact (by omega : False).elim
set_option maxRecDepth 10000 in
theorem zm_125_121 {d : Nat} {A B C : ZM} (hB : zRg B) (hC : zRg C) {t s k w c f g : Int} (ht : 0 ≤ t ∧ t < 3) (hw : 0 ≤ w ∧ w < 31) {o6 o7 o8 o9 : Option Value} (h : zc2 C t w 1 2 0 f g) (hz : C 142 ((t * 31 + w) * 3 + 2) < C 142 ((t * 31 + w) * 3 + 0)) {B2 C2 : ZM} {rv : Int} (hmid : XR (d + 1) 121 [.ref 107, zci t, zci 3, zci w, zci f, zci g] (zhp A (zmg B C)) (some (zci rv), zhp A (zmg B2 C2))) : XG (d + 1) 125 81 [some (.ref 107), some (zci t), some (zci s), some (zci k), some (zci w), some (zci c), o6, o7, o8, o9] [] (zhp A (zmg B C)) (none, zhp A (zmg B2 C2)) := by
  obtain ⟨h1, h2, h3, h4, -, h6, h7⟩ := h
  refine xg_step rfl rfl (fun k => rfl) ?_
  refine xg_step rfl rfl (fun k => rfl) ?_
  refine xg_step rfl rfl (fun k => rfl) ?_
  refine xg_step rfl rfl (fun k => rfl) ?_
  refine xg_step rfl rfl (fun k => rfl) ?_
  refine xg_step rfl rfl (fun k => rfl) ?_
  show XG _ _ 90 [some (.ref 107), some (zci (t)), some (zci (s)), some (zci (k)), some (zci (w)), some (zci (c)), some (zci ((-1))), some (zci ((-1))), some (zci (0)), o9] _ _ _
  refine xg_step rfl rfl (fun k => rfl) ?_
  refine xg_step rfl rfl (fun k => rfl) ?_
  refine xg_step rfl rfl (fun k => rfl) ?_
  refine xg_step rfl rfl (fun k => rfl) ?_
  refine zg_bi rfl (by decide) ?_
  refine zg_mul rfl ?_
  refine xg_step rfl rfl (fun k => rfl) ?_
  refine zg_add rfl ?_
  refine xg_step rfl rfl (fun k => rfl) ?_
  refine zg_mul rfl ?_
  refine xg_step rfl rfl (fun k => rfl) ?_
  show XG _ _ 107 [some (.ref 107), some (zci (t)), some (zci (s)), some (zci (k)), some (zci (w)), some (zci (c)), some (zci ((-1))), some (zci ((-1))), some (zci (0)), some (zci (((t * 31) + w) * 3))] _ _ _
  refine xg_step rfl rfl (fun k => rfl) ?_
  refine xg_get rfl rfl (zha (by decide)) zc_RefM rfl rfl ?_
  refine xg_step rfl rfl (fun k => rfl) ?_
  refine xg_step rfl rfl (fun k => rfl) ?_
  refine zg_add rfl ?_
  refine zg_ald (.inl ⟨rfl, rfl⟩) (zha (by decide)) zc_r_changeRead (by decide) ⟨by omega, by omega⟩ (zvC zk_changeRead (by omega)) ?_
  refine zg_eq0 rfl rfl (fun x k => rfl) (by first | assumption | exact hA _ _ | exact hB _ _ | exact hC _ _ | exact zrg_max (by assumption) (hA _ _) | (constructor <;> omega)) (fun hc => ?_) (fun hc => ?_)
  ·
    exact (by omega : False).elim
  ·
    show XG _ _ 123 [some (.ref 107), some (zci (t)), some (zci (s)), some (zci (k)), some (zci (w)), some (zci (c)), some (zci ((-1))), some (zci ((-1))), some (zci (0)), some (zci (((t * 31) + w) * 3))] _ _ _
    refine xg_step rfl rfl (fun k => rfl) ?_
    refine xg_step rfl rfl (fun k => rfl) ?_
    refine xg_step rfl rfl (fun k => rfl) ?_
    refine xg_step rfl rfl (fun k => rfl) ?_
    refine xg_step rfl rfl (fun k => rfl) ?_
    refine xg_step rfl rfl (fun k => rfl) ?_
    refine xg_step rfl rfl (fun k => rfl) ?_
    show XG _ _ 194 [some (.ref 107), some (zci (t)), some (zci (s)), some (zci (k)), some (zci (w)), some (zci (c)), some (zci (0)), some (zci ((-1))), some (zci (0)), some (zci (((t * 31) + w) * 3))] _ _ _
    refine zg_inc (y := 1) rfl rfl (by decide) rfl ?_
    refine xg_step rfl rfl (fun k => rfl) ?_
    show XG _ _ 90 [some (.ref 107), some (zci (t)), some (zci (s)), some (zci (k)), some (zci (w)), some (zci (c)), some (zci (0)), some (zci ((-1))), some (zci (1)), some (zci (((t * 31) + w) * 3))] _ _ _
    refine xg_step rfl rfl (fun k => rfl) ?_
    refine xg_step rfl rfl (fun k => rfl) ?_
    refine xg_step rfl rfl (fun k => rfl) ?_
    refine xg_step rfl rfl (fun k => rfl) ?_
    refine zg_bi rfl (by decide) ?_
    refine zg_mul rfl ?_
    refine xg_step rfl rfl (fun k => rfl) ?_
    refine zg_add rfl ?_
    refine xg_step rfl rfl (fun k => rfl) ?_
    refine zg_mul rfl ?_
    refine xg_step rfl rfl (fun k => rfl) ?_
    show XG _ _ 107 [some (.ref 107), some (zci (t)), some (zci (s)), some (zci (k)), some (zci (w)), some (zci (c)), some (zci (0)), some (zci ((-1))), some (zci (1)), some (zci (((t * 31) + w) * 3))] _ _ _
    refine xg_step rfl rfl (fun k => rfl) ?_
    refine xg_get rfl rfl (zha (by decide)) zc_RefM rfl rfl ?_
    refine xg_step rfl rfl (fun k => rfl) ?_
    refine xg_step rfl rfl (fun k => rfl) ?_
    refine zg_add rfl ?_
    refine zg_ald (.inl ⟨rfl, rfl⟩) (zha (by decide)) zc_r_changeRead (by decide) ⟨by omega, by omega⟩ (zvC zk_changeRead (by omega)) ?_
    refine zg_eq0 rfl rfl (fun x k => rfl) (by first | assumption | exact hA _ _ | exact hB _ _ | exact hC _ _ | exact zrg_max (by assumption) (hA _ _) | (constructor <;> omega)) (fun hc => ?_) (fun hc => ?_)
    ·
      exact (by omega : False).elim
    ·
      show XG _ _ 123 [some (.ref 107), some (zci (t)), some (zci (s)), some (zci (k)), some (zci (w)), some (zci (c)), some (zci (0)), some (zci ((-1))), some (zci (1)), some (zci (((t * 31) + w) * 3))] _ _ _
      refine xg_step rfl rfl (fun k => rfl) ?_
      refine xg_step rfl rfl (fun k => rfl) ?_
      refine xg_step rfl rfl (fun k => rfl) ?_
      refine xg_get rfl rfl (zha (by decide)) zc_RefM rfl rfl ?_
      refine xg_step rfl rfl (fun k => rfl) ?_
      refine xg_step rfl rfl (fun k => rfl) ?_
      refine zg_add rfl ?_
      refine zg_ald (.inl ⟨rfl, rfl⟩) (zha (by decide)) zc_r_changeRead (by decide) ⟨by omega, by omega⟩ (zvC zk_changeRead (by omega)) ?_
      refine xg_step rfl rfl (fun k => rfl) ?_
      refine xg_get rfl rfl (zha (by decide)) zc_RefM rfl rfl ?_
      refine xg_step rfl rfl (fun k => rfl) ?_
      refine xg_step rfl rfl (fun k => rfl) ?_
      refine zg_add rfl ?_
      refine zg_ald (.inl ⟨rfl, rfl⟩) (zha (by decide)) zc_r_changeRead (by decide) ⟨by omega, by omega⟩ (zvC zk_changeRead (by omega)) ?_
      refine zg_lt rfl rfl (fun x y k => rfl) (by first | assumption | exact hA _ _ | exact hB _ _ | exact hC _ _ | exact zrg_max (by assumption) (hA _ _) | (constructor <;> omega)) (by first | assumption | exact hA _ _ | exact hB _ _ | exact hC _ _ | exact zrg_max (by assumption) (hA _ _) | (constructor <;> omega)) (fun hc => ?_) (fun hc => ?_)
      ·
        refine xg_step rfl rfl (fun k => rfl) ?_
        refine xg_step rfl rfl (fun k => rfl) ?_
        refine xg_step rfl rfl (fun k => rfl) ?_
        refine xg_step rfl rfl (fun k => rfl) ?_
        refine xg_step rfl rfl (fun k => rfl) ?_
        show XG _ _ 194 [some (.ref 107), some (zci (t)), some (zci (s)), some (zci (k)), some (zci (w)), some (zci (c)), some (zci (1)), some (zci (0)), some (zci (1)), some (zci (((t * 31) + w) * 3))] _ _ _
        refine zg_inc (y := 2) rfl rfl (by decide) rfl ?_
        refine xg_step rfl rfl (fun k => rfl) ?_
        show XG _ _ 90 [some (.ref 107), some (zci (t)), some (zci (s)), some (zci (k)), some (zci (w)), some (zci (c)), some (zci (1)), some (zci (0)), some (zci (2)), some (zci (((t * 31) + w) * 3))] _ _ _
        refine xg_step rfl rfl (fun k => rfl) ?_
        refine xg_step rfl rfl (fun k => rfl) ?_
        refine xg_step rfl rfl (fun k => rfl) ?_
        refine xg_step rfl rfl (fun k => rfl) ?_
        refine zg_bi rfl (by decide) ?_
        refine zg_mul rfl ?_
        refine xg_step rfl rfl (fun k => rfl) ?_
        refine zg_add rfl ?_
        refine xg_step rfl rfl (fun k => rfl) ?_
        refine zg_mul rfl ?_
        refine xg_step rfl rfl (fun k => rfl) ?_
        show XG _ _ 107 [some (.ref 107), some (zci (t)), some (zci (s)), some (zci (k)), some (zci (w)), some (zci (c)), some (zci (1)), some (zci (0)), some (zci (2)), some (zci (((t * 31) + w) * 3))] _ _ _
        refine xg_step rfl rfl (fun k => rfl) ?_
        refine xg_get rfl rfl (zha (by decide)) zc_RefM rfl rfl ?_
        refine xg_step rfl rfl (fun k => rfl) ?_
        refine xg_step rfl rfl (fun k => rfl) ?_
        refine zg_add rfl ?_
        refine zg_ald (.inl ⟨rfl, rfl⟩) (zha (by decide)) zc_r_changeRead (by decide) ⟨by omega, by omega⟩ (zvC zk_changeRead (by omega)) ?_
        refine zg_eq0 rfl rfl (fun x k => rfl) (by first | assumption | exact hA _ _ | exact hB _ _ | exact hC _ _ | exact zrg_max (by assumption) (hA _ _) | (constructor <;> omega)) (fun hc => ?_) (fun hc => ?_)
        ·
          exact (by omega : False).elim
        ·
          show XG _ _ 123 [some (.ref 107), some (zci (t)), some (zci (s)), some (zci (k)), some (zci (w)), some (zci (c)), some (zci (1)), some (zci (0)), some (zci (2)), some (zci (((t * 31) + w) * 3))] _ _ _
          refine xg_step rfl rfl (fun k => rfl) ?_
          refine xg_step rfl rfl (fun k => rfl) ?_
          refine xg_step rfl rfl (fun k => rfl) ?_
          refine xg_get rfl rfl (zha (by decide)) zc_RefM rfl rfl ?_
          refine xg_step rfl rfl (fun k => rfl) ?_
          refine xg_step rfl rfl (fun k => rfl) ?_
          refine zg_add rfl ?_
          refine zg_ald (.inl ⟨rfl, rfl⟩) (zha (by decide)) zc_r_changeRead (by decide) ⟨by omega, by omega⟩ (zvC zk_changeRead (by omega)) ?_
          refine xg_step rfl rfl (fun k => rfl) ?_
          refine xg_get rfl rfl (zha (by decide)) zc_RefM rfl rfl ?_
          refine xg_step rfl rfl (fun k => rfl) ?_
          refine xg_step rfl rfl (fun k => rfl) ?_
          refine zg_add rfl ?_
          refine zg_ald (.inl ⟨rfl, rfl⟩) (zha (by decide)) zc_r_changeRead (by decide) ⟨by omega, by omega⟩ (zvC zk_changeRead (by omega)) ?_
          refine zg_lt rfl rfl (fun x y k => rfl) (by first | assumption | exact hA _ _ | exact hB _ _ | exact hC _ _ | exact zrg_max (by assumption) (hA _ _) | (constructor <;> omega)) (by first | assumption | exact hA _ _ | exact hB _ _ | exact hC _ _ | exact zrg_max (by assumption) (hA _ _) | (constructor <;> omega)) (fun hc => ?_) (fun hc => ?_)
          ·
            exact (by omega : False).elim
          ·
            show XG _ _ 162 [some (.ref 107), some (zci (t)), some (zci (s)), some (zci (k)), some (zci (w)), some (zci (c)), some (zci (1)), some (zci (0)), some (zci (2)), some (zci (((t * 31) + w) * 3))] _ _ _
            refine xg_step rfl rfl (fun k => rfl) ?_
            refine xg_step rfl rfl (fun k => rfl) ?_
            refine xg_step rfl rfl (fun k => rfl) ?_
            refine xg_get rfl rfl (zha (by decide)) zc_RefM rfl rfl ?_
            refine xg_step rfl rfl (fun k => rfl) ?_
            refine xg_step rfl rfl (fun k => rfl) ?_
            refine zg_add rfl ?_
            refine zg_ald (.inl ⟨rfl, rfl⟩) (zha (by decide)) zc_r_changeRead (by decide) ⟨by omega, by omega⟩ (zvC zk_changeRead (by omega)) ?_
            refine xg_step rfl rfl (fun k => rfl) ?_
            refine xg_get rfl rfl (zha (by decide)) zc_RefM rfl rfl ?_
            refine xg_step rfl rfl (fun k => rfl) ?_
            refine xg_step rfl rfl (fun k => rfl) ?_
            refine zg_add rfl ?_
            refine zg_ald (.inl ⟨rfl, rfl⟩) (zha (by decide)) zc_r_changeRead (by decide) ⟨by omega, by omega⟩ (zvC zk_changeRead (by omega)) ?_
            refine zg_lt rfl rfl (fun x y k => rfl) (by first | assumption | exact hA _ _ | exact hB _ _ | exact hC _ _ | exact zrg_max (by assumption) (hA _ _) | (constructor <;> omega)) (by first | assumption | exact hA _ _ | exact hB _ _ | exact hC _ _ | exact zrg_max (by assumption) (hA _ _) | (constructor <;> omega)) (fun hc => ?_) (fun hc => ?_)
            ·
              refine xg_step rfl rfl (fun k => rfl) ?_
              refine xg_step rfl rfl (fun k => rfl) ?_
              show XG _ _ 194 [some (.ref 107), some (zci (t)), some (zci (s)), some (zci (k)), some (zci (w)), some (zci (c)), some (zci (1)), some (zci (2)), some (zci (2)), some (zci (((t * 31) + w) * 3))] _ _ _
              refine zg_inc (y := 3) rfl rfl (by decide) rfl ?_
              refine xg_step rfl rfl (fun k => rfl) ?_
              show XG _ _ 90 [some (.ref 107), some (zci (t)), some (zci (s)), some (zci (k)), some (zci (w)), some (zci (c)), some (zci (1)), some (zci (2)), some (zci (3)), some (zci (((t * 31) + w) * 3))] _ _ _
              refine xg_step rfl rfl (fun k => rfl) ?_
              refine xg_step rfl rfl (fun k => rfl) ?_
              refine xg_step rfl rfl (fun k => rfl) ?_
              show XG _ _ 200 [some (.ref 107), some (zci (t)), some (zci (s)), some (zci (k)), some (zci (w)), some (zci (c)), some (zci (1)), some (zci (2)), some (zci (3)), some (zci (((t * 31) + w) * 3))] _ _ _
              refine xg_step rfl rfl (fun k => rfl) ?_
              refine xg_step rfl rfl (fun k => rfl) ?_
              refine xg_step rfl rfl (fun k => rfl) ?_
              refine zg_bi rfl (by decide) ?_
              refine zg_mul rfl ?_
              refine xg_step rfl rfl (fun k => rfl) ?_
              refine zg_add rfl ?_
              refine xg_step rfl rfl (fun k => rfl) ?_
              refine zg_mul rfl ?_
              refine xg_step rfl rfl (fun k => rfl) ?_
              show XG _ _ 217 [some (.ref 107), some (zci (t)), some (zci (s)), some (zci (k)), some (zci (w)), some (zci (c)), some (zci (1)), some (zci (2)), some (zci (((t * 31) + w) * 3)), some (zci (((t * 31) + w) * 3))] _ _ _
              refine xg_step rfl rfl (fun k => rfl) ?_
              refine xg_step rfl rfl (fun k => rfl) ?_
              refine xg_step rfl rfl (fun k => rfl) ?_
              refine xg_step rfl rfl (fun k => rfl) ?_
              refine xg_step rfl rfl (fun k => rfl) ?_
              refine xg_step rfl rfl (fun k => rfl) ?_
              refine xg_get rfl rfl (zha (by decide)) zc_RefM rfl rfl ?_
              refine xg_step rfl rfl (fun k => rfl) ?_
              refine xg_step rfl rfl (fun k => rfl) ?_
              refine zg_add rfl ?_
              refine zg_ald (.inl ⟨rfl, rfl⟩) (zha (by decide)) zc_r_changeNumber (by decide) ⟨by omega, by omega⟩ (zvC zk_changeNumber (by omega)) ?_
              refine zg_mul rfl ?_
              refine xg_step rfl rfl (fun k => rfl) ?_
              refine zg_add rfl ?_
              refine xg_step rfl rfl (fun k => rfl) ?_
              refine xg_step rfl rfl (fun k => rfl) ?_
              refine xg_get rfl rfl (zha (by decide)) zc_RefM rfl rfl ?_
              refine xg_step rfl rfl (fun k => rfl) ?_
              refine xg_step rfl rfl (fun k => rfl) ?_
              refine zg_add rfl ?_
              refine zg_ald (.inl ⟨rfl, rfl⟩) (zha (by decide)) zc_r_changeNumber (by decide) ⟨by omega, by omega⟩ (zvC zk_changeNumber (by omega)) ?_
              refine zg_mul rfl ?_
              refine xg_step rfl rfl (fun k => rfl) ?_
              refine zg_add rfl ?_
              rw [show (3 * (C 143 ((((t * 31) + w) * 3) + 1))) + 1 = f from by omega, show (3 * (C 143 ((((t * 31) + w) * 3) + 2))) + 2 = g from by omega]
              refine zg_cvi rfl rfl rfl (Nat.le_of_ble_eq_true rfl) (zha (by decide)) zc_RefM rfl rfl hmid ?_
              refine xg_step rfl rfl (fun k => rfl) ?_
              exact zg_ret rfl rfl rfl
            ·
              exact (by omega : False).elim
      ·
        exact (by omega : False).elim
set_option maxRecDepth 10000 in
theorem zm_125_200 {d : Nat} {A B C : ZM} (hB : zRg B) (hC : zRg C) {t s k w c f g : Int} (ht : 0 ≤ t ∧ t < 3) (hw : 0 ≤ w ∧ w < 31) {o6 o7 o8 o9 : Option Value} (h : zc2 C t w 2 0 1 f g) (hz : C 142 ((t * 31 + w) * 3 + 1) = 0) {B2 C2 : ZM} {rv : Int} (hmid : XR (d + 1) 121 [.ref 107, zci t, zci 3, zci w, zci f, zci g] (zhp A (zmg B C)) (some (zci rv), zhp A (zmg B2 C2))) : XG (d + 1) 125 81 [some (.ref 107), some (zci t), some (zci s), some (zci k), some (zci w), some (zci c), o6, o7, o8, o9] [] (zhp A (zmg B C)) (none, zhp A (zmg B2 C2)) := by
  obtain ⟨h1, h2, h3, h4, -, h6, h7⟩ := h
  refine xg_step rfl rfl (fun k => rfl) ?_
  refine xg_step rfl rfl (fun k => rfl) ?_
  refine xg_step rfl rfl (fun k => rfl) ?_
  refine xg_step rfl rfl (fun k => rfl) ?_
  refine xg_step rfl rfl (fun k => rfl) ?_
  refine xg_step rfl rfl (fun k => rfl) ?_
  show XG _ _ 90 [some (.ref 107), some (zci (t)), some (zci (s)), some (zci (k)), some (zci (w)), some (zci (c)), some (zci ((-1))), some (zci ((-1))), some (zci (0)), o9] _ _ _
  refine xg_step rfl rfl (fun k => rfl) ?_
  refine xg_step rfl rfl (fun k => rfl) ?_
  refine xg_step rfl rfl (fun k => rfl) ?_
  refine xg_step rfl rfl (fun k => rfl) ?_
  refine zg_bi rfl (by decide) ?_
  refine zg_mul rfl ?_
  refine xg_step rfl rfl (fun k => rfl) ?_
  refine zg_add rfl ?_
  refine xg_step rfl rfl (fun k => rfl) ?_
  refine zg_mul rfl ?_
  refine xg_step rfl rfl (fun k => rfl) ?_
  show XG _ _ 107 [some (.ref 107), some (zci (t)), some (zci (s)), some (zci (k)), some (zci (w)), some (zci (c)), some (zci ((-1))), some (zci ((-1))), some (zci (0)), some (zci (((t * 31) + w) * 3))] _ _ _
  refine xg_step rfl rfl (fun k => rfl) ?_
  refine xg_get rfl rfl (zha (by decide)) zc_RefM rfl rfl ?_
  refine xg_step rfl rfl (fun k => rfl) ?_
  refine xg_step rfl rfl (fun k => rfl) ?_
  refine zg_add rfl ?_
  refine zg_ald (.inl ⟨rfl, rfl⟩) (zha (by decide)) zc_r_changeRead (by decide) ⟨by omega, by omega⟩ (zvC zk_changeRead (by omega)) ?_
  refine zg_eq0 rfl rfl (fun x k => rfl) (by first | assumption | exact hA _ _ | exact hB _ _ | exact hC _ _ | exact zrg_max (by assumption) (hA _ _) | (constructor <;> omega)) (fun hc => ?_) (fun hc => ?_)
  ·
    exact (by omega : False).elim
  ·
    show XG _ _ 123 [some (.ref 107), some (zci (t)), some (zci (s)), some (zci (k)), some (zci (w)), some (zci (c)), some (zci ((-1))), some (zci ((-1))), some (zci (0)), some (zci (((t * 31) + w) * 3))] _ _ _
    refine xg_step rfl rfl (fun k => rfl) ?_
    refine xg_step rfl rfl (fun k => rfl) ?_
    refine xg_step rfl rfl (fun k => rfl) ?_
    refine xg_step rfl rfl (fun k => rfl) ?_
    refine xg_step rfl rfl (fun k => rfl) ?_
    refine xg_step rfl rfl (fun k => rfl) ?_
    refine xg_step rfl rfl (fun k => rfl) ?_
    show XG _ _ 194 [some (.ref 107), some (zci (t)), some (zci (s)), some (zci (k)), some (zci (w)), some (zci (c)), some (zci (0)), some (zci ((-1))), some (zci (0)), some (zci (((t * 31) + w) * 3))] _ _ _
    refine zg_inc (y := 1) rfl rfl (by decide) rfl ?_
    refine xg_step rfl rfl (fun k => rfl) ?_
    show XG _ _ 90 [some (.ref 107), some (zci (t)), some (zci (s)), some (zci (k)), some (zci (w)), some (zci (c)), some (zci (0)), some (zci ((-1))), some (zci (1)), some (zci (((t * 31) + w) * 3))] _ _ _
    refine xg_step rfl rfl (fun k => rfl) ?_
    refine xg_step rfl rfl (fun k => rfl) ?_
    refine xg_step rfl rfl (fun k => rfl) ?_
    refine xg_step rfl rfl (fun k => rfl) ?_
    refine zg_bi rfl (by decide) ?_
    refine zg_mul rfl ?_
    refine xg_step rfl rfl (fun k => rfl) ?_
    refine zg_add rfl ?_
    refine xg_step rfl rfl (fun k => rfl) ?_
    refine zg_mul rfl ?_
    refine xg_step rfl rfl (fun k => rfl) ?_
    show XG _ _ 107 [some (.ref 107), some (zci (t)), some (zci (s)), some (zci (k)), some (zci (w)), some (zci (c)), some (zci (0)), some (zci ((-1))), some (zci (1)), some (zci (((t * 31) + w) * 3))] _ _ _
    refine xg_step rfl rfl (fun k => rfl) ?_
    refine xg_get rfl rfl (zha (by decide)) zc_RefM rfl rfl ?_
    refine xg_step rfl rfl (fun k => rfl) ?_
    refine xg_step rfl rfl (fun k => rfl) ?_
    refine zg_add rfl ?_
    refine zg_ald (.inl ⟨rfl, rfl⟩) (zha (by decide)) zc_r_changeRead (by decide) ⟨by omega, by omega⟩ (zvC zk_changeRead (by omega)) ?_
    refine zg_eq0 rfl rfl (fun x k => rfl) (by first | assumption | exact hA _ _ | exact hB _ _ | exact hC _ _ | exact zrg_max (by assumption) (hA _ _) | (constructor <;> omega)) (fun hc => ?_) (fun hc => ?_)
    ·
      refine xg_step rfl rfl (fun k => rfl) ?_
      show XG _ _ 194 [some (.ref 107), some (zci (t)), some (zci (s)), some (zci (k)), some (zci (w)), some (zci (c)), some (zci (0)), some (zci ((-1))), some (zci (1)), some (zci (((t * 31) + w) * 3))] _ _ _
      refine zg_inc (y := 2) rfl rfl (by decide) rfl ?_
      refine xg_step rfl rfl (fun k => rfl) ?_
      show XG _ _ 90 [some (.ref 107), some (zci (t)), some (zci (s)), some (zci (k)), some (zci (w)), some (zci (c)), some (zci (0)), some (zci ((-1))), some (zci (2)), some (zci (((t * 31) + w) * 3))] _ _ _
      refine xg_step rfl rfl (fun k => rfl) ?_
      refine xg_step rfl rfl (fun k => rfl) ?_
      refine xg_step rfl rfl (fun k => rfl) ?_
      refine xg_step rfl rfl (fun k => rfl) ?_
      refine zg_bi rfl (by decide) ?_
      refine zg_mul rfl ?_
      refine xg_step rfl rfl (fun k => rfl) ?_
      refine zg_add rfl ?_
      refine xg_step rfl rfl (fun k => rfl) ?_
      refine zg_mul rfl ?_
      refine xg_step rfl rfl (fun k => rfl) ?_
      show XG _ _ 107 [some (.ref 107), some (zci (t)), some (zci (s)), some (zci (k)), some (zci (w)), some (zci (c)), some (zci (0)), some (zci ((-1))), some (zci (2)), some (zci (((t * 31) + w) * 3))] _ _ _
      refine xg_step rfl rfl (fun k => rfl) ?_
      refine xg_get rfl rfl (zha (by decide)) zc_RefM rfl rfl ?_
      refine xg_step rfl rfl (fun k => rfl) ?_
      refine xg_step rfl rfl (fun k => rfl) ?_
      refine zg_add rfl ?_
      refine zg_ald (.inl ⟨rfl, rfl⟩) (zha (by decide)) zc_r_changeRead (by decide) ⟨by omega, by omega⟩ (zvC zk_changeRead (by omega)) ?_
      refine zg_eq0 rfl rfl (fun x k => rfl) (by first | assumption | exact hA _ _ | exact hB _ _ | exact hC _ _ | exact zrg_max (by assumption) (hA _ _) | (constructor <;> omega)) (fun hc => ?_) (fun hc => ?_)
      ·
        exact (by omega : False).elim
      ·
        show XG _ _ 123 [some (.ref 107), some (zci (t)), some (zci (s)), some (zci (k)), some (zci (w)), some (zci (c)), some (zci (0)), some (zci ((-1))), some (zci (2)), some (zci (((t * 31) + w) * 3))] _ _ _
        refine xg_step rfl rfl (fun k => rfl) ?_
        refine xg_step rfl rfl (fun k => rfl) ?_
        refine xg_step rfl rfl (fun k => rfl) ?_
        refine xg_get rfl rfl (zha (by decide)) zc_RefM rfl rfl ?_
        refine xg_step rfl rfl (fun k => rfl) ?_
        refine xg_step rfl rfl (fun k => rfl) ?_
        refine zg_add rfl ?_
        refine zg_ald (.inl ⟨rfl, rfl⟩) (zha (by decide)) zc_r_changeRead (by decide) ⟨by omega, by omega⟩ (zvC zk_changeRead (by omega)) ?_
        refine xg_step rfl rfl (fun k => rfl) ?_
        refine xg_get rfl rfl (zha (by decide)) zc_RefM rfl rfl ?_
        refine xg_step rfl rfl (fun k => rfl) ?_
        refine xg_step rfl rfl (fun k => rfl) ?_
        refine zg_add rfl ?_
        refine zg_ald (.inl ⟨rfl, rfl⟩) (zha (by decide)) zc_r_changeRead (by decide) ⟨by omega, by omega⟩ (zvC zk_changeRead (by omega)) ?_
        refine zg_lt rfl rfl (fun x y k => rfl) (by first | assumption | exact hA _ _ | exact hB _ _ | exact hC _ _ | exact zrg_max (by assumption) (hA _ _) | (constructor <;> omega)) (by first | assumption | exact hA _ _ | exact hB _ _ | exact hC _ _ | exact zrg_max (by assumption) (hA _ _) | (constructor <;> omega)) (fun hc => ?_) (fun hc => ?_)
        ·
          refine xg_step rfl rfl (fun k => rfl) ?_
          refine xg_step rfl rfl (fun k => rfl) ?_
          refine xg_step rfl rfl (fun k => rfl) ?_
          refine xg_step rfl rfl (fun k => rfl) ?_
          refine xg_step rfl rfl (fun k => rfl) ?_
          show XG _ _ 194 [some (.ref 107), some (zci (t)), some (zci (s)), some (zci (k)), some (zci (w)), some (zci (c)), some (zci (2)), some (zci (0)), some (zci (2)), some (zci (((t * 31) + w) * 3))] _ _ _
          refine zg_inc (y := 3) rfl rfl (by decide) rfl ?_
          refine xg_step rfl rfl (fun k => rfl) ?_
          show XG _ _ 90 [some (.ref 107), some (zci (t)), some (zci (s)), some (zci (k)), some (zci (w)), some (zci (c)), some (zci (2)), some (zci (0)), some (zci (3)), some (zci (((t * 31) + w) * 3))] _ _ _
          refine xg_step rfl rfl (fun k => rfl) ?_
          refine xg_step rfl rfl (fun k => rfl) ?_
          refine xg_step rfl rfl (fun k => rfl) ?_
          show XG _ _ 200 [some (.ref 107), some (zci (t)), some (zci (s)), some (zci (k)), some (zci (w)), some (zci (c)), some (zci (2)), some (zci (0)), some (zci (3)), some (zci (((t * 31) + w) * 3))] _ _ _
          refine xg_step rfl rfl (fun k => rfl) ?_
          refine xg_step rfl rfl (fun k => rfl) ?_
          refine xg_step rfl rfl (fun k => rfl) ?_
          refine zg_bi rfl (by decide) ?_
          refine zg_mul rfl ?_
          refine xg_step rfl rfl (fun k => rfl) ?_
          refine zg_add rfl ?_
          refine xg_step rfl rfl (fun k => rfl) ?_
          refine zg_mul rfl ?_
          refine xg_step rfl rfl (fun k => rfl) ?_
          show XG _ _ 217 [some (.ref 107), some (zci (t)), some (zci (s)), some (zci (k)), some (zci (w)), some (zci (c)), some (zci (2)), some (zci (0)), some (zci (((t * 31) + w) * 3)), some (zci (((t * 31) + w) * 3))] _ _ _
          refine xg_step rfl rfl (fun k => rfl) ?_
          refine xg_step rfl rfl (fun k => rfl) ?_
          refine xg_step rfl rfl (fun k => rfl) ?_
          refine xg_step rfl rfl (fun k => rfl) ?_
          refine xg_step rfl rfl (fun k => rfl) ?_
          refine xg_step rfl rfl (fun k => rfl) ?_
          refine xg_get rfl rfl (zha (by decide)) zc_RefM rfl rfl ?_
          refine xg_step rfl rfl (fun k => rfl) ?_
          refine xg_step rfl rfl (fun k => rfl) ?_
          refine zg_add rfl ?_
          refine zg_ald (.inl ⟨rfl, rfl⟩) (zha (by decide)) zc_r_changeNumber (by decide) ⟨by omega, by omega⟩ (zvC zk_changeNumber (by omega)) ?_
          refine zg_mul rfl ?_
          refine xg_step rfl rfl (fun k => rfl) ?_
          refine zg_add rfl ?_
          refine xg_step rfl rfl (fun k => rfl) ?_
          refine xg_step rfl rfl (fun k => rfl) ?_
          refine xg_get rfl rfl (zha (by decide)) zc_RefM rfl rfl ?_
          refine xg_step rfl rfl (fun k => rfl) ?_
          refine xg_step rfl rfl (fun k => rfl) ?_
          refine zg_add rfl ?_
          refine zg_ald (.inl ⟨rfl, rfl⟩) (zha (by decide)) zc_r_changeNumber (by decide) ⟨by omega, by omega⟩ (zvC zk_changeNumber (by omega)) ?_
          refine zg_mul rfl ?_
          refine xg_step rfl rfl (fun k => rfl) ?_
          refine zg_add rfl ?_
          rw [show (3 * (C 143 ((((t * 31) + w) * 3) + 2))) + 2 = f from by omega, show (3 * (C 143 ((((t * 31) + w) * 3) + 0))) + 0 = g from by omega]
          refine zg_cvi rfl rfl rfl (Nat.le_of_ble_eq_true rfl) (zha (by decide)) zc_RefM rfl rfl hmid ?_
          refine xg_step rfl rfl (fun k => rfl) ?_
          exact zg_ret rfl rfl rfl
        ·
          exact (by omega : False).elim
    ·
      exact (by omega : False).elim
set_option maxRecDepth 10000 in
theorem zm_125_201 {d : Nat} {A B C : ZM} (hB : zRg B) (hC : zRg C) {t s k w c f g : Int} (ht : 0 ≤ t ∧ t < 3) (hw : 0 ≤ w ∧ w < 31) {o6 o7 o8 o9 : Option Value} (h : zc2 C t w 2 0 1 f g) (hz : C 142 ((t * 31 + w) * 3 + 0) < C 142 ((t * 31 + w) * 3 + 1)) {B2 C2 : ZM} {rv : Int} (hmid : XR (d + 1) 121 [.ref 107, zci t, zci 3, zci w, zci f, zci g] (zhp A (zmg B C)) (some (zci rv), zhp A (zmg B2 C2))) : XG (d + 1) 125 81 [some (.ref 107), some (zci t), some (zci s), some (zci k), some (zci w), some (zci c), o6, o7, o8, o9] [] (zhp A (zmg B C)) (none, zhp A (zmg B2 C2)) := by
  obtain ⟨h1, h2, h3, h4, -, h6, h7⟩ := h
  refine xg_step rfl rfl (fun k => rfl) ?_
  refine xg_step rfl rfl (fun k => rfl) ?_
  refine xg_step rfl rfl (fun k => rfl) ?_
  refine xg_step rfl rfl (fun k => rfl) ?_
  refine xg_step rfl rfl (fun k => rfl) ?_
  refine xg_step rfl rfl (fun k => rfl) ?_
  show XG _ _ 90 [some (.ref 107), some (zci (t)), some (zci (s)), some (zci (k)), some (zci (w)), some (zci (c)), some (zci ((-1))), some (zci ((-1))), some (zci (0)), o9] _ _ _
  refine xg_step rfl rfl (fun k => rfl) ?_
  refine xg_step rfl rfl (fun k => rfl) ?_
  refine xg_step rfl rfl (fun k => rfl) ?_
  refine xg_step rfl rfl (fun k => rfl) ?_
  refine zg_bi rfl (by decide) ?_
  refine zg_mul rfl ?_
  refine xg_step rfl rfl (fun k => rfl) ?_
  refine zg_add rfl ?_
  refine xg_step rfl rfl (fun k => rfl) ?_
  refine zg_mul rfl ?_
  refine xg_step rfl rfl (fun k => rfl) ?_
  show XG _ _ 107 [some (.ref 107), some (zci (t)), some (zci (s)), some (zci (k)), some (zci (w)), some (zci (c)), some (zci ((-1))), some (zci ((-1))), some (zci (0)), some (zci (((t * 31) + w) * 3))] _ _ _
  refine xg_step rfl rfl (fun k => rfl) ?_
  refine xg_get rfl rfl (zha (by decide)) zc_RefM rfl rfl ?_
  refine xg_step rfl rfl (fun k => rfl) ?_
  refine xg_step rfl rfl (fun k => rfl) ?_
  refine zg_add rfl ?_
  refine zg_ald (.inl ⟨rfl, rfl⟩) (zha (by decide)) zc_r_changeRead (by decide) ⟨by omega, by omega⟩ (zvC zk_changeRead (by omega)) ?_
  refine zg_eq0 rfl rfl (fun x k => rfl) (by first | assumption | exact hA _ _ | exact hB _ _ | exact hC _ _ | exact zrg_max (by assumption) (hA _ _) | (constructor <;> omega)) (fun hc => ?_) (fun hc => ?_)
  ·
    exact (by omega : False).elim
  ·
    show XG _ _ 123 [some (.ref 107), some (zci (t)), some (zci (s)), some (zci (k)), some (zci (w)), some (zci (c)), some (zci ((-1))), some (zci ((-1))), some (zci (0)), some (zci (((t * 31) + w) * 3))] _ _ _
    refine xg_step rfl rfl (fun k => rfl) ?_
    refine xg_step rfl rfl (fun k => rfl) ?_
    refine xg_step rfl rfl (fun k => rfl) ?_
    refine xg_step rfl rfl (fun k => rfl) ?_
    refine xg_step rfl rfl (fun k => rfl) ?_
    refine xg_step rfl rfl (fun k => rfl) ?_
    refine xg_step rfl rfl (fun k => rfl) ?_
    show XG _ _ 194 [some (.ref 107), some (zci (t)), some (zci (s)), some (zci (k)), some (zci (w)), some (zci (c)), some (zci (0)), some (zci ((-1))), some (zci (0)), some (zci (((t * 31) + w) * 3))] _ _ _
    refine zg_inc (y := 1) rfl rfl (by decide) rfl ?_
    refine xg_step rfl rfl (fun k => rfl) ?_
    show XG _ _ 90 [some (.ref 107), some (zci (t)), some (zci (s)), some (zci (k)), some (zci (w)), some (zci (c)), some (zci (0)), some (zci ((-1))), some (zci (1)), some (zci (((t * 31) + w) * 3))] _ _ _
    refine xg_step rfl rfl (fun k => rfl) ?_
    refine xg_step rfl rfl (fun k => rfl) ?_
    refine xg_step rfl rfl (fun k => rfl) ?_
    refine xg_step rfl rfl (fun k => rfl) ?_
    refine zg_bi rfl (by decide) ?_
    refine zg_mul rfl ?_
    refine xg_step rfl rfl (fun k => rfl) ?_
    refine zg_add rfl ?_
    refine xg_step rfl rfl (fun k => rfl) ?_
    refine zg_mul rfl ?_
    refine xg_step rfl rfl (fun k => rfl) ?_
    show XG _ _ 107 [some (.ref 107), some (zci (t)), some (zci (s)), some (zci (k)), some (zci (w)), some (zci (c)), some (zci (0)), some (zci ((-1))), some (zci (1)), some (zci (((t * 31) + w) * 3))] _ _ _
    refine xg_step rfl rfl (fun k => rfl) ?_
    refine xg_get rfl rfl (zha (by decide)) zc_RefM rfl rfl ?_
    refine xg_step rfl rfl (fun k => rfl) ?_
    refine xg_step rfl rfl (fun k => rfl) ?_
    refine zg_add rfl ?_
    refine zg_ald (.inl ⟨rfl, rfl⟩) (zha (by decide)) zc_r_changeRead (by decide) ⟨by omega, by omega⟩ (zvC zk_changeRead (by omega)) ?_
    refine zg_eq0 rfl rfl (fun x k => rfl) (by first | assumption | exact hA _ _ | exact hB _ _ | exact hC _ _ | exact zrg_max (by assumption) (hA _ _) | (constructor <;> omega)) (fun hc => ?_) (fun hc => ?_)
    ·
      exact (by omega : False).elim
    ·
      show XG _ _ 123 [some (.ref 107), some (zci (t)), some (zci (s)), some (zci (k)), some (zci (w)), some (zci (c)), some (zci (0)), some (zci ((-1))), some (zci (1)), some (zci (((t * 31) + w) * 3))] _ _ _
      refine xg_step rfl rfl (fun k => rfl) ?_
      refine xg_step rfl rfl (fun k => rfl) ?_
      refine xg_step rfl rfl (fun k => rfl) ?_
      refine xg_get rfl rfl (zha (by decide)) zc_RefM rfl rfl ?_
      refine xg_step rfl rfl (fun k => rfl) ?_
      refine xg_step rfl rfl (fun k => rfl) ?_
      refine zg_add rfl ?_
      refine zg_ald (.inl ⟨rfl, rfl⟩) (zha (by decide)) zc_r_changeRead (by decide) ⟨by omega, by omega⟩ (zvC zk_changeRead (by omega)) ?_
      refine xg_step rfl rfl (fun k => rfl) ?_
      refine xg_get rfl rfl (zha (by decide)) zc_RefM rfl rfl ?_
      refine xg_step rfl rfl (fun k => rfl) ?_
      refine xg_step rfl rfl (fun k => rfl) ?_
      refine zg_add rfl ?_
      refine zg_ald (.inl ⟨rfl, rfl⟩) (zha (by decide)) zc_r_changeRead (by decide) ⟨by omega, by omega⟩ (zvC zk_changeRead (by omega)) ?_
      refine zg_lt rfl rfl (fun x y k => rfl) (by first | assumption | exact hA _ _ | exact hB _ _ | exact hC _ _ | exact zrg_max (by assumption) (hA _ _) | (constructor <;> omega)) (by first | assumption | exact hA _ _ | exact hB _ _ | exact hC _ _ | exact zrg_max (by assumption) (hA _ _) | (constructor <;> omega)) (fun hc => ?_) (fun hc => ?_)
      ·
        exact (by omega : False).elim
      ·
        show XG _ _ 162 [some (.ref 107), some (zci (t)), some (zci (s)), some (zci (k)), some (zci (w)), some (zci (c)), some (zci (0)), some (zci ((-1))), some (zci (1)), some (zci (((t * 31) + w) * 3))] _ _ _
        refine xg_step rfl rfl (fun k => rfl) ?_
        refine xg_step rfl rfl (fun k => rfl) ?_
        refine xg_step rfl rfl (fun k => rfl) ?_
        refine xg_step rfl rfl (fun k => rfl) ?_
        show XG _ _ 194 [some (.ref 107), some (zci (t)), some (zci (s)), some (zci (k)), some (zci (w)), some (zci (c)), some (zci (0)), some (zci (1)), some (zci (1)), some (zci (((t * 31) + w) * 3))] _ _ _
        refine zg_inc (y := 2) rfl rfl (by decide) rfl ?_
        refine xg_step rfl rfl (fun k => rfl) ?_
        show XG _ _ 90 [some (.ref 107), some (zci (t)), some (zci (s)), some (zci (k)), some (zci (w)), some (zci (c)), some (zci (0)), some (zci (1)), some (zci (2)), some (zci (((t * 31) + w) * 3))] _ _ _
        refine xg_step rfl rfl (fun k => rfl) ?_
        refine xg_step rfl rfl (fun k => rfl) ?_
        refine xg_step rfl rfl (fun k => rfl) ?_
        refine xg_step rfl rfl (fun k => rfl) ?_
        refine zg_bi rfl (by decide) ?_
        refine zg_mul rfl ?_
        refine xg_step rfl rfl (fun k => rfl) ?_
        refine zg_add rfl ?_
        refine xg_step rfl rfl (fun k => rfl) ?_
        refine zg_mul rfl ?_
        refine xg_step rfl rfl (fun k => rfl) ?_
        show XG _ _ 107 [some (.ref 107), some (zci (t)), some (zci (s)), some (zci (k)), some (zci (w)), some (zci (c)), some (zci (0)), some (zci (1)), some (zci (2)), some (zci (((t * 31) + w) * 3))] _ _ _
        refine xg_step rfl rfl (fun k => rfl) ?_
        refine xg_get rfl rfl (zha (by decide)) zc_RefM rfl rfl ?_
        refine xg_step rfl rfl (fun k => rfl) ?_
        refine xg_step rfl rfl (fun k => rfl) ?_
        refine zg_add rfl ?_
        refine zg_ald (.inl ⟨rfl, rfl⟩) (zha (by decide)) zc_r_changeRead (by decide) ⟨by omega, by omega⟩ (zvC zk_changeRead (by omega)) ?_
        refine zg_eq0 rfl rfl (fun x k => rfl) (by first | assumption | exact hA _ _ | exact hB _ _ | exact hC _ _ | exact zrg_max (by assumption) (hA _ _) | (constructor <;> omega)) (fun hc => ?_) (fun hc => ?_)
        ·
          exact (by omega : False).elim
        ·
          show XG _ _ 123 [some (.ref 107), some (zci (t)), some (zci (s)), some (zci (k)), some (zci (w)), some (zci (c)), some (zci (0)), some (zci (1)), some (zci (2)), some (zci (((t * 31) + w) * 3))] _ _ _
          refine xg_step rfl rfl (fun k => rfl) ?_
          refine xg_step rfl rfl (fun k => rfl) ?_
          refine xg_step rfl rfl (fun k => rfl) ?_
          refine xg_get rfl rfl (zha (by decide)) zc_RefM rfl rfl ?_
          refine xg_step rfl rfl (fun k => rfl) ?_
          refine xg_step rfl rfl (fun k => rfl) ?_
          refine zg_add rfl ?_
          refine zg_ald (.inl ⟨rfl, rfl⟩) (zha (by decide)) zc_r_changeRead (by decide) ⟨by omega, by omega⟩ (zvC zk_changeRead (by omega)) ?_
          refine xg_step rfl rfl (fun k => rfl) ?_
          refine xg_get rfl rfl (zha (by decide)) zc_RefM rfl rfl ?_
          refine xg_step rfl rfl (fun k => rfl) ?_
          refine xg_step rfl rfl (fun k => rfl) ?_
          refine zg_add rfl ?_
          refine zg_ald (.inl ⟨rfl, rfl⟩) (zha (by decide)) zc_r_changeRead (by decide) ⟨by omega, by omega⟩ (zvC zk_changeRead (by omega)) ?_
          refine zg_lt rfl rfl (fun x y k => rfl) (by first | assumption | exact hA _ _ | exact hB _ _ | exact hC _ _ | exact zrg_max (by assumption) (hA _ _) | (constructor <;> omega)) (by first | assumption | exact hA _ _ | exact hB _ _ | exact hC _ _ | exact zrg_max (by assumption) (hA _ _) | (constructor <;> omega)) (fun hc => ?_) (fun hc => ?_)
          ·
            refine xg_step rfl rfl (fun k => rfl) ?_
            refine xg_step rfl rfl (fun k => rfl) ?_
            refine xg_step rfl rfl (fun k => rfl) ?_
            refine xg_step rfl rfl (fun k => rfl) ?_
            refine xg_step rfl rfl (fun k => rfl) ?_
            show XG _ _ 194 [some (.ref 107), some (zci (t)), some (zci (s)), some (zci (k)), some (zci (w)), some (zci (c)), some (zci (2)), some (zci (0)), some (zci (2)), some (zci (((t * 31) + w) * 3))] _ _ _
            refine zg_inc (y := 3) rfl rfl (by decide) rfl ?_
            refine xg_step rfl rfl (fun k => rfl) ?_
            show XG _ _ 90 [some (.ref 107), some (zci (t)), some (zci (s)), some (zci (k)), some (zci (w)), some (zci (c)), some (zci (2)), some (zci (0)), some (zci (3)), some (zci (((t * 31) + w) * 3))] _ _ _
            refine xg_step rfl rfl (fun k => rfl) ?_
            refine xg_step rfl rfl (fun k => rfl) ?_
            refine xg_step rfl rfl (fun k => rfl) ?_
            show XG _ _ 200 [some (.ref 107), some (zci (t)), some (zci (s)), some (zci (k)), some (zci (w)), some (zci (c)), some (zci (2)), some (zci (0)), some (zci (3)), some (zci (((t * 31) + w) * 3))] _ _ _
            refine xg_step rfl rfl (fun k => rfl) ?_
            refine xg_step rfl rfl (fun k => rfl) ?_
            refine xg_step rfl rfl (fun k => rfl) ?_
            refine zg_bi rfl (by decide) ?_
            refine zg_mul rfl ?_
            refine xg_step rfl rfl (fun k => rfl) ?_
            refine zg_add rfl ?_
            refine xg_step rfl rfl (fun k => rfl) ?_
            refine zg_mul rfl ?_
            refine xg_step rfl rfl (fun k => rfl) ?_
            show XG _ _ 217 [some (.ref 107), some (zci (t)), some (zci (s)), some (zci (k)), some (zci (w)), some (zci (c)), some (zci (2)), some (zci (0)), some (zci (((t * 31) + w) * 3)), some (zci (((t * 31) + w) * 3))] _ _ _
            refine xg_step rfl rfl (fun k => rfl) ?_
            refine xg_step rfl rfl (fun k => rfl) ?_
            refine xg_step rfl rfl (fun k => rfl) ?_
            refine xg_step rfl rfl (fun k => rfl) ?_
            refine xg_step rfl rfl (fun k => rfl) ?_
            refine xg_step rfl rfl (fun k => rfl) ?_
            refine xg_get rfl rfl (zha (by decide)) zc_RefM rfl rfl ?_
            refine xg_step rfl rfl (fun k => rfl) ?_
            refine xg_step rfl rfl (fun k => rfl) ?_
            refine zg_add rfl ?_
            refine zg_ald (.inl ⟨rfl, rfl⟩) (zha (by decide)) zc_r_changeNumber (by decide) ⟨by omega, by omega⟩ (zvC zk_changeNumber (by omega)) ?_
            refine zg_mul rfl ?_
            refine xg_step rfl rfl (fun k => rfl) ?_
            refine zg_add rfl ?_
            refine xg_step rfl rfl (fun k => rfl) ?_
            refine xg_step rfl rfl (fun k => rfl) ?_
            refine xg_get rfl rfl (zha (by decide)) zc_RefM rfl rfl ?_
            refine xg_step rfl rfl (fun k => rfl) ?_
            refine xg_step rfl rfl (fun k => rfl) ?_
            refine zg_add rfl ?_
            refine zg_ald (.inl ⟨rfl, rfl⟩) (zha (by decide)) zc_r_changeNumber (by decide) ⟨by omega, by omega⟩ (zvC zk_changeNumber (by omega)) ?_
            refine zg_mul rfl ?_
            refine xg_step rfl rfl (fun k => rfl) ?_
            refine zg_add rfl ?_
            rw [show (3 * (C 143 ((((t * 31) + w) * 3) + 2))) + 2 = f from by omega, show (3 * (C 143 ((((t * 31) + w) * 3) + 0))) + 0 = g from by omega]
            refine zg_cvi rfl rfl rfl (Nat.le_of_ble_eq_true rfl) (zha (by decide)) zc_RefM rfl rfl hmid ?_
            refine xg_step rfl rfl (fun k => rfl) ?_
            exact zg_ret rfl rfl rfl
          ·
            exact (by omega : False).elim
set_option maxRecDepth 10000 in
theorem zm_125_210 {d : Nat} {A B C : ZM} (hB : zRg B) (hC : zRg C) {t s k w c f g : Int} (ht : 0 ≤ t ∧ t < 3) (hw : 0 ≤ w ∧ w < 31) {o6 o7 o8 o9 : Option Value} (h : zc2 C t w 2 1 0 f g) (hz : C 142 ((t * 31 + w) * 3 + 0) = 0) {B2 C2 : ZM} {rv : Int} (hmid : XR (d + 1) 121 [.ref 107, zci t, zci 3, zci w, zci f, zci g] (zhp A (zmg B C)) (some (zci rv), zhp A (zmg B2 C2))) : XG (d + 1) 125 81 [some (.ref 107), some (zci t), some (zci s), some (zci k), some (zci w), some (zci c), o6, o7, o8, o9] [] (zhp A (zmg B C)) (none, zhp A (zmg B2 C2)) := by
  obtain ⟨h1, h2, h3, h4, -, h6, h7⟩ := h
  refine xg_step rfl rfl (fun k => rfl) ?_
  refine xg_step rfl rfl (fun k => rfl) ?_
  refine xg_step rfl rfl (fun k => rfl) ?_
  refine xg_step rfl rfl (fun k => rfl) ?_
  refine xg_step rfl rfl (fun k => rfl) ?_
  refine xg_step rfl rfl (fun k => rfl) ?_
  show XG _ _ 90 [some (.ref 107), some (zci (t)), some (zci (s)), some (zci (k)), some (zci (w)), some (zci (c)), some (zci ((-1))), some (zci ((-1))), some (zci (0)), o9] _ _ _
  refine xg_step rfl rfl (fun k => rfl) ?_
  refine xg_step rfl rfl (fun k => rfl) ?_
  refine xg_step rfl rfl (fun k => rfl) ?_
  refine xg_step rfl rfl (fun k => rfl) ?_
  refine zg_bi rfl (by decide) ?_
  refine zg_mul rfl ?_
  refine xg_step rfl rfl (fun k => rfl) ?_
  refine zg_add rfl ?_
  refine xg_step rfl rfl (fun k => rfl) ?_
  refine zg_mul rfl ?_
  refine xg_step rfl rfl (fun k => rfl) ?_
  show XG _ _ 107 [some (.ref 107), some (zci (t)), some (zci (s)), some (zci (k)), some (zci (w)), some (zci (c)), some (zci ((-1))), some (zci ((-1))), some (zci (0)), some (zci (((t * 31) + w) * 3))] _ _ _
  refine xg_step rfl rfl (fun k => rfl) ?_
  refine xg_get rfl rfl (zha (by decide)) zc_RefM rfl rfl ?_
  refine xg_step rfl rfl (fun k => rfl) ?_
  refine xg_step rfl rfl (fun k => rfl) ?_
  refine zg_add rfl ?_
  refine zg_ald (.inl ⟨rfl, rfl⟩) (zha (by decide)) zc_r_changeRead (by decide) ⟨by omega, by omega⟩ (zvC zk_changeRead (by omega)) ?_
  refine zg_eq0 rfl rfl (fun x k => rfl) (by first | assumption | exact hA _ _ | exact hB _ _ | exact hC _ _ | exact zrg_max (by assumption) (hA _ _) | (constructor <;> omega)) (fun hc => ?_) (fun hc => ?_)
  ·
    refine xg_step rfl rfl (fun k => rfl) ?_
    show XG _ _ 194 [some (.ref 107), some (zci (t)), some (zci (s)), some (zci (k)), some (zci (w)), some (zci (c)), some (zci ((-1))), some (zci ((-1))), some (zci (0)), some (zci (((t * 31) + w) * 3))] _ _ _
    refine zg_inc (y := 1) rfl rfl (by decide) rfl ?_
    refine xg_step rfl rfl (fun k => rfl) ?_
    show XG _ _ 90 [some (.ref 107), some (zci (t)), some (zci (s)), some (zci (k)), some (zci (w)), some (zci (c)), some (zci ((-1))), some (zci ((-1))), some (zci (1)), some (zci (((t * 31) + w) * 3))] _ _ _
    refine xg_step rfl rfl (fun k => rfl) ?_
    refine xg_step rfl rfl (fun k => rfl) ?_
    refine xg_step rfl rfl (fun k => rfl) ?_
    refine xg_step rfl rfl (fun k => rfl) ?_
    refine zg_bi rfl (by decide) ?_
    refine zg_mul rfl ?_
    refine xg_step rfl rfl (fun k => rfl) ?_
    refine zg_add rfl ?_
    refine xg_step rfl rfl (fun k => rfl) ?_
    refine zg_mul rfl ?_
    refine xg_step rfl rfl (fun k => rfl) ?_
    show XG _ _ 107 [some (.ref 107), some (zci (t)), some (zci (s)), some (zci (k)), some (zci (w)), some (zci (c)), some (zci ((-1))), some (zci ((-1))), some (zci (1)), some (zci (((t * 31) + w) * 3))] _ _ _
    refine xg_step rfl rfl (fun k => rfl) ?_
    refine xg_get rfl rfl (zha (by decide)) zc_RefM rfl rfl ?_
    refine xg_step rfl rfl (fun k => rfl) ?_
    refine xg_step rfl rfl (fun k => rfl) ?_
    refine zg_add rfl ?_
    refine zg_ald (.inl ⟨rfl, rfl⟩) (zha (by decide)) zc_r_changeRead (by decide) ⟨by omega, by omega⟩ (zvC zk_changeRead (by omega)) ?_
    refine zg_eq0 rfl rfl (fun x k => rfl) (by first | assumption | exact hA _ _ | exact hB _ _ | exact hC _ _ | exact zrg_max (by assumption) (hA _ _) | (constructor <;> omega)) (fun hc => ?_) (fun hc => ?_)
    ·
      exact (by omega : False).elim
    ·
      show XG _ _ 123 [some (.ref 107), some (zci (t)), some (zci (s)), some (zci (k)), some (zci (w)), some (zci (c)), some (zci ((-1))), some (zci ((-1))), some (zci (1)), some (zci (((t * 31) + w) * 3))] _ _ _
      refine xg_step rfl rfl (fun k => rfl) ?_
      refine xg_step rfl rfl (fun k => rfl) ?_
      refine xg_step rfl rfl (fun k => rfl) ?_
      refine xg_step rfl rfl (fun k => rfl) ?_
      refine xg_step rfl rfl (fun k => rfl) ?_
      refine xg_step rfl rfl (fun k => rfl) ?_
      refine xg_step rfl rfl (fun k => rfl) ?_
      show XG _ _ 194 [some (.ref 107), some (zci (t)), some (zci (s)), some (zci (k)), some (zci (w)), some (zci (c)), some (zci (1)), some (zci ((-1))), some (zci (1)), some (zci (((t * 31) + w) * 3))] _ _ _
      refine zg_inc (y := 2) rfl rfl (by decide) rfl ?_
      refine xg_step rfl rfl (fun k => rfl) ?_
      show XG _ _ 90 [some (.ref 107), some (zci (t)), some (zci (s)), some (zci (k)), some (zci (w)), some (zci (c)), some (zci (1)), some (zci ((-1))), some (zci (2)), some (zci (((t * 31) + w) * 3))] _ _ _
      refine xg_step rfl rfl (fun k => rfl) ?_
      refine xg_step rfl rfl (fun k => rfl) ?_
      refine xg_step rfl rfl (fun k => rfl) ?_
      refine xg_step rfl rfl (fun k => rfl) ?_
      refine zg_bi rfl (by decide) ?_
      refine zg_mul rfl ?_
      refine xg_step rfl rfl (fun k => rfl) ?_
      refine zg_add rfl ?_
      refine xg_step rfl rfl (fun k => rfl) ?_
      refine zg_mul rfl ?_
      refine xg_step rfl rfl (fun k => rfl) ?_
      show XG _ _ 107 [some (.ref 107), some (zci (t)), some (zci (s)), some (zci (k)), some (zci (w)), some (zci (c)), some (zci (1)), some (zci ((-1))), some (zci (2)), some (zci (((t * 31) + w) * 3))] _ _ _
      refine xg_step rfl rfl (fun k => rfl) ?_
      refine xg_get rfl rfl (zha (by decide)) zc_RefM rfl rfl ?_
      refine xg_step rfl rfl (fun k => rfl) ?_
      refine xg_step rfl rfl (fun k => rfl) ?_
      refine zg_add rfl ?_
      refine zg_ald (.inl ⟨rfl, rfl⟩) (zha (by decide)) zc_r_changeRead (by decide) ⟨by omega, by omega⟩ (zvC zk_changeRead (by omega)) ?_
      refine zg_eq0 rfl rfl (fun x k => rfl) (by first | assumption | exact hA _ _ | exact hB _ _ | exact hC _ _ | exact zrg_max (by assumption) (hA _ _) | (constructor <;> omega)) (fun hc => ?_) (fun hc => ?_)
      ·
        exact (by omega : False).elim
      ·
        show XG _ _ 123 [some (.ref 107), some (zci (t)), some (zci (s)), some (zci (k)), some (zci (w)), some (zci (c)), some (zci (1)), some (zci ((-1))), some (zci (2)), some (zci (((t * 31) + w) * 3))] _ _ _
        refine xg_step rfl rfl (fun k => rfl) ?_
        refine xg_step rfl rfl (fun k => rfl) ?_
        refine xg_step rfl rfl (fun k => rfl) ?_
        refine xg_get rfl rfl (zha (by decide)) zc_RefM rfl rfl ?_
        refine xg_step rfl rfl (fun k => rfl) ?_
        refine xg_step rfl rfl (fun k => rfl) ?_
        refine zg_add rfl ?_
        refine zg_ald (.inl ⟨rfl, rfl⟩) (zha (by decide)) zc_r_changeRead (by decide) ⟨by omega, by omega⟩ (zvC zk_changeRead (by omega)) ?_
        refine xg_step rfl rfl (fun k => rfl) ?_
        refine xg_get rfl rfl (zha (by decide)) zc_RefM rfl rfl ?_
        refine xg_step rfl rfl (fun k => rfl) ?_
        refine xg_step rfl rfl (fun k => rfl) ?_
        refine zg_add rfl ?_
        refine zg_ald (.inl ⟨rfl, rfl⟩) (zha (by decide)) zc_r_changeRead (by decide) ⟨by omega, by omega⟩ (zvC zk_changeRead (by omega)) ?_
        refine zg_lt rfl rfl (fun x y k => rfl) (by first | assumption | exact hA _ _ | exact hB _ _ | exact hC _ _ | exact zrg_max (by assumption) (hA _ _) | (constructor <;> omega)) (by first | assumption | exact hA _ _ | exact hB _ _ | exact hC _ _ | exact zrg_max (by assumption) (hA _ _) | (constructor <;> omega)) (fun hc => ?_) (fun hc => ?_)
        ·
          refine xg_step rfl rfl (fun k => rfl) ?_
          refine xg_step rfl rfl (fun k => rfl) ?_
          refine xg_step rfl rfl (fun k => rfl) ?_
          refine xg_step rfl rfl (fun k => rfl) ?_
          refine xg_step rfl rfl (fun k => rfl) ?_
          show XG _ _ 194 [some (.ref 107), some (zci (t)), some (zci (s)), some (zci (k)), some (zci (w)), some (zci (c)), some (zci (2)), some (zci (1)), some (zci (2)), some (zci (((t * 31) + w) * 3))] _ _ _
          refine zg_inc (y := 3) rfl rfl (by decide) rfl ?_
          refine xg_step rfl rfl (fun k => rfl) ?_
          show XG _ _ 90 [some (.ref 107), some (zci (t)), some (zci (s)), some (zci (k)), some (zci (w)), some (zci (c)), some (zci (2)), some (zci (1)), some (zci (3)), some (zci (((t * 31) + w) * 3))] _ _ _
          refine xg_step rfl rfl (fun k => rfl) ?_
          refine xg_step rfl rfl (fun k => rfl) ?_
          refine xg_step rfl rfl (fun k => rfl) ?_
          show XG _ _ 200 [some (.ref 107), some (zci (t)), some (zci (s)), some (zci (k)), some (zci (w)), some (zci (c)), some (zci (2)), some (zci (1)), some (zci (3)), some (zci (((t * 31) + w) * 3))] _ _ _
          refine xg_step rfl rfl (fun k => rfl) ?_
          refine xg_step rfl rfl (fun k => rfl) ?_
          refine xg_step rfl rfl (fun k => rfl) ?_
          refine zg_bi rfl (by decide) ?_
          refine zg_mul rfl ?_
          refine xg_step rfl rfl (fun k => rfl) ?_
          refine zg_add rfl ?_
          refine xg_step rfl rfl (fun k => rfl) ?_
          refine zg_mul rfl ?_
          refine xg_step rfl rfl (fun k => rfl) ?_
          show XG _ _ 217 [some (.ref 107), some (zci (t)), some (zci (s)), some (zci (k)), some (zci (w)), some (zci (c)), some (zci (2)), some (zci (1)), some (zci (((t * 31) + w) * 3)), some (zci (((t * 31) + w) * 3))] _ _ _
          refine xg_step rfl rfl (fun k => rfl) ?_
          refine xg_step rfl rfl (fun k => rfl) ?_
          refine xg_step rfl rfl (fun k => rfl) ?_
          refine xg_step rfl rfl (fun k => rfl) ?_
          refine xg_step rfl rfl (fun k => rfl) ?_
          refine xg_step rfl rfl (fun k => rfl) ?_
          refine xg_get rfl rfl (zha (by decide)) zc_RefM rfl rfl ?_
          refine xg_step rfl rfl (fun k => rfl) ?_
          refine xg_step rfl rfl (fun k => rfl) ?_
          refine zg_add rfl ?_
          refine zg_ald (.inl ⟨rfl, rfl⟩) (zha (by decide)) zc_r_changeNumber (by decide) ⟨by omega, by omega⟩ (zvC zk_changeNumber (by omega)) ?_
          refine zg_mul rfl ?_
          refine xg_step rfl rfl (fun k => rfl) ?_
          refine zg_add rfl ?_
          refine xg_step rfl rfl (fun k => rfl) ?_
          refine xg_step rfl rfl (fun k => rfl) ?_
          refine xg_get rfl rfl (zha (by decide)) zc_RefM rfl rfl ?_
          refine xg_step rfl rfl (fun k => rfl) ?_
          refine xg_step rfl rfl (fun k => rfl) ?_
          refine zg_add rfl ?_
          refine zg_ald (.inl ⟨rfl, rfl⟩) (zha (by decide)) zc_r_changeNumber (by decide) ⟨by omega, by omega⟩ (zvC zk_changeNumber (by omega)) ?_
          refine zg_mul rfl ?_
          refine xg_step rfl rfl (fun k => rfl) ?_
          refine zg_add rfl ?_
          rw [show (3 * (C 143 ((((t * 31) + w) * 3) + 2))) + 2 = f from by omega, show (3 * (C 143 ((((t * 31) + w) * 3) + 1))) + 1 = g from by omega]
          refine zg_cvi rfl rfl rfl (Nat.le_of_ble_eq_true rfl) (zha (by decide)) zc_RefM rfl rfl hmid ?_
          refine xg_step rfl rfl (fun k => rfl) ?_
          exact zg_ret rfl rfl rfl
        ·
          exact (by omega : False).elim
  ·
    exact (by omega : False).elim
set_option maxRecDepth 10000 in
theorem zm_125_211 {d : Nat} {A B C : ZM} (hB : zRg B) (hC : zRg C) {t s k w c f g : Int} (ht : 0 ≤ t ∧ t < 3) (hw : 0 ≤ w ∧ w < 31) {o6 o7 o8 o9 : Option Value} (h : zc2 C t w 2 1 0 f g) (hz : C 142 ((t * 31 + w) * 3 + 1) < C 142 ((t * 31 + w) * 3 + 0)) {B2 C2 : ZM} {rv : Int} (hmid : XR (d + 1) 121 [.ref 107, zci t, zci 3, zci w, zci f, zci g] (zhp A (zmg B C)) (some (zci rv), zhp A (zmg B2 C2))) : XG (d + 1) 125 81 [some (.ref 107), some (zci t), some (zci s), some (zci k), some (zci w), some (zci c), o6, o7, o8, o9] [] (zhp A (zmg B C)) (none, zhp A (zmg B2 C2)) := by
  obtain ⟨h1, h2, h3, h4, -, h6, h7⟩ := h
  refine xg_step rfl rfl (fun k => rfl) ?_
  refine xg_step rfl rfl (fun k => rfl) ?_
  refine xg_step rfl rfl (fun k => rfl) ?_
  refine xg_step rfl rfl (fun k => rfl) ?_
  refine xg_step rfl rfl (fun k => rfl) ?_
  refine xg_step rfl rfl (fun k => rfl) ?_
  show XG _ _ 90 [some (.ref 107), some (zci (t)), some (zci (s)), some (zci (k)), some (zci (w)), some (zci (c)), some (zci ((-1))), some (zci ((-1))), some (zci (0)), o9] _ _ _
  refine xg_step rfl rfl (fun k => rfl) ?_
  refine xg_step rfl rfl (fun k => rfl) ?_
  refine xg_step rfl rfl (fun k => rfl) ?_
  refine xg_step rfl rfl (fun k => rfl) ?_
  refine zg_bi rfl (by decide) ?_
  refine zg_mul rfl ?_
  refine xg_step rfl rfl (fun k => rfl) ?_
  refine zg_add rfl ?_
  refine xg_step rfl rfl (fun k => rfl) ?_
  refine zg_mul rfl ?_
  refine xg_step rfl rfl (fun k => rfl) ?_
  show XG _ _ 107 [some (.ref 107), some (zci (t)), some (zci (s)), some (zci (k)), some (zci (w)), some (zci (c)), some (zci ((-1))), some (zci ((-1))), some (zci (0)), some (zci (((t * 31) + w) * 3))] _ _ _
  refine xg_step rfl rfl (fun k => rfl) ?_
  refine xg_get rfl rfl (zha (by decide)) zc_RefM rfl rfl ?_
  refine xg_step rfl rfl (fun k => rfl) ?_
  refine xg_step rfl rfl (fun k => rfl) ?_
  refine zg_add rfl ?_
  refine zg_ald (.inl ⟨rfl, rfl⟩) (zha (by decide)) zc_r_changeRead (by decide) ⟨by omega, by omega⟩ (zvC zk_changeRead (by omega)) ?_
  refine zg_eq0 rfl rfl (fun x k => rfl) (by first | assumption | exact hA _ _ | exact hB _ _ | exact hC _ _ | exact zrg_max (by assumption) (hA _ _) | (constructor <;> omega)) (fun hc => ?_) (fun hc => ?_)
  ·
    exact (by omega : False).elim
  ·
    show XG _ _ 123 [some (.ref 107), some (zci (t)), some (zci (s)), some (zci (k)), some (zci (w)), some (zci (c)), some (zci ((-1))), some (zci ((-1))), some (zci (0)), some (zci (((t * 31) + w) * 3))] _ _ _
    refine xg_step rfl rfl (fun k => rfl) ?_
    refine xg_step rfl rfl (fun k => rfl) ?_
    refine xg_step rfl rfl (fun k => rfl) ?_
    refine xg_step rfl rfl (fun k => rfl) ?_
    refine xg_step rfl rfl (fun k => rfl) ?_
    refine xg_step rfl rfl (fun k => rfl) ?_
    refine xg_step rfl rfl (fun k => rfl) ?_
    show XG _ _ 194 [some (.ref 107), some (zci (t)), some (zci (s)), some (zci (k)), some (zci (w)), some (zci (c)), some (zci (0)), some (zci ((-1))), some (zci (0)), some (zci (((t * 31) + w) * 3))] _ _ _
    refine zg_inc (y := 1) rfl rfl (by decide) rfl ?_
    refine xg_step rfl rfl (fun k => rfl) ?_
    show XG _ _ 90 [some (.ref 107), some (zci (t)), some (zci (s)), some (zci (k)), some (zci (w)), some (zci (c)), some (zci (0)), some (zci ((-1))), some (zci (1)), some (zci (((t * 31) + w) * 3))] _ _ _
    refine xg_step rfl rfl (fun k => rfl) ?_
    refine xg_step rfl rfl (fun k => rfl) ?_
    refine xg_step rfl rfl (fun k => rfl) ?_
    refine xg_step rfl rfl (fun k => rfl) ?_
    refine zg_bi rfl (by decide) ?_
    refine zg_mul rfl ?_
    refine xg_step rfl rfl (fun k => rfl) ?_
    refine zg_add rfl ?_
    refine xg_step rfl rfl (fun k => rfl) ?_
    refine zg_mul rfl ?_
    refine xg_step rfl rfl (fun k => rfl) ?_
    show XG _ _ 107 [some (.ref 107), some (zci (t)), some (zci (s)), some (zci (k)), some (zci (w)), some (zci (c)), some (zci (0)), some (zci ((-1))), some (zci (1)), some (zci (((t * 31) + w) * 3))] _ _ _
    refine xg_step rfl rfl (fun k => rfl) ?_
    refine xg_get rfl rfl (zha (by decide)) zc_RefM rfl rfl ?_
    refine xg_step rfl rfl (fun k => rfl) ?_
    refine xg_step rfl rfl (fun k => rfl) ?_
    refine zg_add rfl ?_
    refine zg_ald (.inl ⟨rfl, rfl⟩) (zha (by decide)) zc_r_changeRead (by decide) ⟨by omega, by omega⟩ (zvC zk_changeRead (by omega)) ?_
    refine zg_eq0 rfl rfl (fun x k => rfl) (by first | assumption | exact hA _ _ | exact hB _ _ | exact hC _ _ | exact zrg_max (by assumption) (hA _ _) | (constructor <;> omega)) (fun hc => ?_) (fun hc => ?_)
    ·
      exact (by omega : False).elim
    ·
      show XG _ _ 123 [some (.ref 107), some (zci (t)), some (zci (s)), some (zci (k)), some (zci (w)), some (zci (c)), some (zci (0)), some (zci ((-1))), some (zci (1)), some (zci (((t * 31) + w) * 3))] _ _ _
      refine xg_step rfl rfl (fun k => rfl) ?_
      refine xg_step rfl rfl (fun k => rfl) ?_
      refine xg_step rfl rfl (fun k => rfl) ?_
      refine xg_get rfl rfl (zha (by decide)) zc_RefM rfl rfl ?_
      refine xg_step rfl rfl (fun k => rfl) ?_
      refine xg_step rfl rfl (fun k => rfl) ?_
      refine zg_add rfl ?_
      refine zg_ald (.inl ⟨rfl, rfl⟩) (zha (by decide)) zc_r_changeRead (by decide) ⟨by omega, by omega⟩ (zvC zk_changeRead (by omega)) ?_
      refine xg_step rfl rfl (fun k => rfl) ?_
      refine xg_get rfl rfl (zha (by decide)) zc_RefM rfl rfl ?_
      refine xg_step rfl rfl (fun k => rfl) ?_
      refine xg_step rfl rfl (fun k => rfl) ?_
      refine zg_add rfl ?_
      refine zg_ald (.inl ⟨rfl, rfl⟩) (zha (by decide)) zc_r_changeRead (by decide) ⟨by omega, by omega⟩ (zvC zk_changeRead (by omega)) ?_
      refine zg_lt rfl rfl (fun x y k => rfl) (by first | assumption | exact hA _ _ | exact hB _ _ | exact hC _ _ | exact zrg_max (by assumption) (hA _ _) | (constructor <;> omega)) (by first | assumption | exact hA _ _ | exact hB _ _ | exact hC _ _ | exact zrg_max (by assumption) (hA _ _) | (constructor <;> omega)) (fun hc => ?_) (fun hc => ?_)
      ·
        refine xg_step rfl rfl (fun k => rfl) ?_
        refine xg_step rfl rfl (fun k => rfl) ?_
        refine xg_step rfl rfl (fun k => rfl) ?_
        refine xg_step rfl rfl (fun k => rfl) ?_
        refine xg_step rfl rfl (fun k => rfl) ?_
        show XG _ _ 194 [some (.ref 107), some (zci (t)), some (zci (s)), some (zci (k)), some (zci (w)), some (zci (c)), some (zci (1)), some (zci (0)), some (zci (1)), some (zci (((t * 31) + w) * 3))] _ _ _
        refine zg_inc (y := 2) rfl rfl (by decide) rfl ?_
        refine xg_step rfl rfl (fun k => rfl) ?_
        show XG _ _ 90 [some (.ref 107), some (zci (t)), some (zci (s)), some (zci (k)), some (zci (w)), some (zci (c)), some (zci (1)), some (zci (0)), some (zci (2)), some (zci (((t * 31) + w) * 3))] _ _ _
        refine xg_step rfl rfl (fun k => rfl) ?_
        refine xg_step rfl rfl (fun k => rfl) ?_
        refine xg_step rfl rfl (fun k => rfl) ?_
        refine xg_step rfl rfl (fun k => rfl) ?_
        refine zg_bi rfl (by decide) ?_
        refine zg_mul rfl ?_
        refine xg_step rfl rfl (fun k => rfl) ?_
        refine zg_add rfl ?_
        refine xg_step rfl rfl (fun k => rfl) ?_
        refine zg_mul rfl ?_
        refine xg_step rfl rfl (fun k => rfl) ?_
        show XG _ _ 107 [some (.ref 107), some (zci (t)), some (zci (s)), some (zci (k)), some (zci (w)), some (zci (c)), some (zci (1)), some (zci (0)), some (zci (2)), some (zci (((t * 31) + w) * 3))] _ _ _
        refine xg_step rfl rfl (fun k => rfl) ?_
        refine xg_get rfl rfl (zha (by decide)) zc_RefM rfl rfl ?_
        refine xg_step rfl rfl (fun k => rfl) ?_
        refine xg_step rfl rfl (fun k => rfl) ?_
        refine zg_add rfl ?_
        refine zg_ald (.inl ⟨rfl, rfl⟩) (zha (by decide)) zc_r_changeRead (by decide) ⟨by omega, by omega⟩ (zvC zk_changeRead (by omega)) ?_
        refine zg_eq0 rfl rfl (fun x k => rfl) (by first | assumption | exact hA _ _ | exact hB _ _ | exact hC _ _ | exact zrg_max (by assumption) (hA _ _) | (constructor <;> omega)) (fun hc => ?_) (fun hc => ?_)
        ·
          exact (by omega : False).elim
        ·
          show XG _ _ 123 [some (.ref 107), some (zci (t)), some (zci (s)), some (zci (k)), some (zci (w)), some (zci (c)), some (zci (1)), some (zci (0)), some (zci (2)), some (zci (((t * 31) + w) * 3))] _ _ _
          refine xg_step rfl rfl (fun k => rfl) ?_
          refine xg_step rfl rfl (fun k => rfl) ?_
          refine xg_step rfl rfl (fun k => rfl) ?_
          refine xg_get rfl rfl (zha (by decide)) zc_RefM rfl rfl ?_
          refine xg_step rfl rfl (fun k => rfl) ?_
          refine xg_step rfl rfl (fun k => rfl) ?_
          refine zg_add rfl ?_
          refine zg_ald (.inl ⟨rfl, rfl⟩) (zha (by decide)) zc_r_changeRead (by decide) ⟨by omega, by omega⟩ (zvC zk_changeRead (by omega)) ?_
          refine xg_step rfl rfl (fun k => rfl) ?_
          refine xg_get rfl rfl (zha (by decide)) zc_RefM rfl rfl ?_
          refine xg_step rfl rfl (fun k => rfl) ?_
          refine xg_step rfl rfl (fun k => rfl) ?_
          refine zg_add rfl ?_
          refine zg_ald (.inl ⟨rfl, rfl⟩) (zha (by decide)) zc_r_changeRead (by decide) ⟨by omega, by omega⟩ (zvC zk_changeRead (by omega)) ?_
          refine zg_lt rfl rfl (fun x y k => rfl) (by first | assumption | exact hA _ _ | exact hB _ _ | exact hC _ _ | exact zrg_max (by assumption) (hA _ _) | (constructor <;> omega)) (by first | assumption | exact hA _ _ | exact hB _ _ | exact hC _ _ | exact zrg_max (by assumption) (hA _ _) | (constructor <;> omega)) (fun hc => ?_) (fun hc => ?_)
          ·
            refine xg_step rfl rfl (fun k => rfl) ?_
            refine xg_step rfl rfl (fun k => rfl) ?_
            refine xg_step rfl rfl (fun k => rfl) ?_
            refine xg_step rfl rfl (fun k => rfl) ?_
            refine xg_step rfl rfl (fun k => rfl) ?_
            show XG _ _ 194 [some (.ref 107), some (zci (t)), some (zci (s)), some (zci (k)), some (zci (w)), some (zci (c)), some (zci (2)), some (zci (1)), some (zci (2)), some (zci (((t * 31) + w) * 3))] _ _ _
            refine zg_inc (y := 3) rfl rfl (by decide) rfl ?_
            refine xg_step rfl rfl (fun k => rfl) ?_
            show XG _ _ 90 [some (.ref 107), some (zci (t)), some (zci (s)), some (zci (k)), some (zci (w)), some (zci (c)), some (zci (2)), some (zci (1)), some (zci (3)), some (zci (((t * 31) + w) * 3))] _ _ _
            refine xg_step rfl rfl (fun k => rfl) ?_
            refine xg_step rfl rfl (fun k => rfl) ?_
            refine xg_step rfl rfl (fun k => rfl) ?_
            show XG _ _ 200 [some (.ref 107), some (zci (t)), some (zci (s)), some (zci (k)), some (zci (w)), some (zci (c)), some (zci (2)), some (zci (1)), some (zci (3)), some (zci (((t * 31) + w) * 3))] _ _ _
            refine xg_step rfl rfl (fun k => rfl) ?_
            refine xg_step rfl rfl (fun k => rfl) ?_
            refine xg_step rfl rfl (fun k => rfl) ?_
            refine zg_bi rfl (by decide) ?_
            refine zg_mul rfl ?_
            refine xg_step rfl rfl (fun k => rfl) ?_
            refine zg_add rfl ?_
            refine xg_step rfl rfl (fun k => rfl) ?_
            refine zg_mul rfl ?_
            refine xg_step rfl rfl (fun k => rfl) ?_
            show XG _ _ 217 [some (.ref 107), some (zci (t)), some (zci (s)), some (zci (k)), some (zci (w)), some (zci (c)), some (zci (2)), some (zci (1)), some (zci (((t * 31) + w) * 3)), some (zci (((t * 31) + w) * 3))] _ _ _
            refine xg_step rfl rfl (fun k => rfl) ?_
            refine xg_step rfl rfl (fun k => rfl) ?_
            refine xg_step rfl rfl (fun k => rfl) ?_
            refine xg_step rfl rfl (fun k => rfl) ?_
            refine xg_step rfl rfl (fun k => rfl) ?_
            refine xg_step rfl rfl (fun k => rfl) ?_
            refine xg_get rfl rfl (zha (by decide)) zc_RefM rfl rfl ?_
            refine xg_step rfl rfl (fun k => rfl) ?_
            refine xg_step rfl rfl (fun k => rfl) ?_
            refine zg_add rfl ?_
            refine zg_ald (.inl ⟨rfl, rfl⟩) (zha (by decide)) zc_r_changeNumber (by decide) ⟨by omega, by omega⟩ (zvC zk_changeNumber (by omega)) ?_
            refine zg_mul rfl ?_
            refine xg_step rfl rfl (fun k => rfl) ?_
            refine zg_add rfl ?_
            refine xg_step rfl rfl (fun k => rfl) ?_
            refine xg_step rfl rfl (fun k => rfl) ?_
            refine xg_get rfl rfl (zha (by decide)) zc_RefM rfl rfl ?_
            refine xg_step rfl rfl (fun k => rfl) ?_
            refine xg_step rfl rfl (fun k => rfl) ?_
            refine zg_add rfl ?_
            refine zg_ald (.inl ⟨rfl, rfl⟩) (zha (by decide)) zc_r_changeNumber (by decide) ⟨by omega, by omega⟩ (zvC zk_changeNumber (by omega)) ?_
            refine zg_mul rfl ?_
            refine xg_step rfl rfl (fun k => rfl) ?_
            refine zg_add rfl ?_
            rw [show (3 * (C 143 ((((t * 31) + w) * 3) + 2))) + 2 = f from by omega, show (3 * (C 143 ((((t * 31) + w) * 3) + 1))) + 1 = g from by omega]
            refine zg_cvi rfl rfl rfl (Nat.le_of_ble_eq_true rfl) (zha (by decide)) zc_RefM rfl rfl hmid ?_
            refine xg_step rfl rfl (fun k => rfl) ?_
            exact zg_ret rfl rfl rfl
          ·
            exact (by omega : False).elim
      ·
        exact (by omega : False).elim
theorem zm_125n {d : Nat} {A B C : ZM} (hB : zRg B) (hC : zRg C) {t s k w c f g : Int} (ht : 0 ≤ t ∧ t < 3) (hw : 0 ≤ w ∧ w < 31) {o6 o7 o8 o9 : Option Value} (h : zCh C t w f g) (hf : f ≠ 0) (hg : g = 0) : XG (d + 1) 125 81 [some (.ref 107), some (zci t), some (zci s), some (zci k), some (zci w), some (zci c), o6, o7, o8, o9] [] (zhp A (zmg B C)) (none, zhp A (zmg B C)) := by
  rcases h with ⟨q, -⟩ | ⟨-, -, q⟩ | ⟨-, q, -⟩
  · exact (hf q).elim
  · rcases q with q | q | q
    · exact zm_125_0 (g := g) hB hC ht hw q
    · exact zm_125_1 (g := g) hB hC ht hw q
    · exact zm_125_2 (g := g) hB hC ht hw q
  · exact (q hg).elim
theorem zm_125y {d : Nat} {A B C : ZM} (hB : zRg B) (hC : zRg C) {t s k w c f g : Int} (ht : 0 ≤ t ∧ t < 3) (hw : 0 ≤ w ∧ w < 31) {o6 o7 o8 o9 : Option Value} (h : zCh C t w f g) (hg : g ≠ 0) {B2 C2 : ZM} {rv : Int} (hmid : XR (d + 1) 121 [.ref 107, zci t, zci 3, zci w, zci f, zci g] (zhp A (zmg B C)) (some (zci rv), zhp A (zmg B2 C2))) : XG (d + 1) 125 81 [some (.ref 107), some (zci t), some (zci s), some (zci k), some (zci w), some (zci c), o6, o7, o8, o9] [] (zhp A (zmg B C)) (none, zhp A (zmg B2 C2)) := by
  rcases h with ⟨-, q, -⟩ | ⟨-, q, -⟩ | ⟨-, -, q⟩
  · exact (hg q).elim
  · exact (hg q).elim
  · rcases q with q | q | q | q | q | q
    · rcases q.2.2.2.2.1 with z | z
      · exact zm_125_010 hB hC ht hw q z hmid
      · exact zm_125_011 hB hC ht hw q z hmid
    · rcases q.2.2.2.2.1 with z | z
      · exact zm_125_020 hB hC ht hw q z hmid
      · exact zm_125_021 hB hC ht hw q z hmid
    · rcases q.2.2.2.2.1 with z | z
      · exact zm_125_100 hB hC ht hw q z hmid
      · exact zm_125_101 hB hC ht hw q z hmid
    · rcases q.2.2.2.2.1 with z | z
      · exact zm_125_120 hB hC ht hw q z hmid
      · exact zm_125_121 hB hC ht hw q z hmid
    · rcases q.2.2.2.2.1 with z | z
      · exact zm_125_200 hB hC ht hw q z hmid
      · exact zm_125_201 hB hC ht hw q z hmid
    · rcases q.2.2.2.2.1 with z | z
      · exact zm_125_210 hB hC ht hw q z hmid
      · exact zm_125_211 hB hC ht hw q z hmid
