/-! reading on -/
theorem zNS_rg {A : ZM} {t : Int} (ht : 0 ≤ t ∧ t < 3) : zNS A t = -1 ∨ (0 ≤ zNS A t ∧ zNS A t < 3) := by
  unfold zNS
  split
  · exact .inr ht
  · rw [zNSg_S (by omega)]
    split
    · exact .inr (by omega)
    · rw [zNSg_S (by omega)]
      split
      · exact .inr (by omega)
      · rw [zNSg_S (by omega)]
        split
        · exact .inr (by omega)
        · rw [zNSg_N (by omega)]; exact .inl rfl
def zRS (A : ZM) (t : Int) : ZM := zD (ztake (zup A (59 + 17 * t) (zNS A t) (A (59 + 17 * t) (zNS A t) + 1)) t (zNS A t) (A (59 + 17 * t) (zNS A t))) t
def zRA (t : Int) : Nat → ZM → Int → Int × ZM
  | 0, A, c => (c, A)
  | n + 1, A, c => if zNS A t = -1 then (c, A) else zRA t n (zRS A t) (if zNS A t = t then c else c + 1)
def zRst (A : ZM) (t : Int) : Prop := zG A ∧ A (56 + 17 * t) 0 = t ∧ (∀ p, 0 ≤ p ∧ p < 3 → 1 ≤ A (59 + 17 * t) p ∧ A (59 + 17 * t) p ≤ 101) ∧ (∀ p k, 0 ≤ p ∧ p < 3 → 0 ≤ k ∧ k < 101 → ¬ A (58 + 17 * t) (p * 101 + k) = 0 → 1 ≤ k ∧ k ≤ A (44 + 2 * p) 1)
def zTk (A : ZM) (t p k : Int) : Prop := (1 ≤ k ∧ k ≤ A (44 + 2 * p) 1) ∧ ((0 ≤ A (45 + 2 * p) (k * 5 + 0) ∧ A (45 + 2 * p) (k * 5 + 0) < 4) ∧ (0 ≤ A (45 + 2 * p) (k * 5 + 1) ∧ A (45 + 2 * p) (k * 5 + 1) < 31)) ∧ (0 ≤ A (56 + 17 * t) 7 ∧ A (56 + 17 * t) 7 < 31) ∧ 0 ≤ A (60 + 17 * t) 2 ∧ (∀ w, 0 ≤ w ∧ w < 31 → (0 ≤ A (64 + 17 * t) w ∧ A (64 + 17 * t) w < 1000) ∧ (0 ≤ A (65 + 17 * t) w ∧ A (65 + 17 * t) w < 1000))
def zRok (t : Int) : Nat → ZM → Prop
  | 0, _ => True
  | n + 1, A => zRst A t ∧ (¬ zNS A t = -1 → zTk A t (zNS A t) (A (59 + 17 * t) (zNS A t)) ∧ zDok (ztake (zup A (59 + 17 * t) (zNS A t) (A (59 + 17 * t) (zNS A t) + 1)) t (zNS A t) (A (59 + 17 * t) (zNS A t))) t ∧ zRok t n (zRS A t))
theorem zRA_S {t i c : Int} {A : ZM} (h : i < 300) : zRA t (300 - i).toNat A c = if zNS A t = -1 then (c, A) else zRA t (300 - (i + 1)).toNat (zRS A t) (if zNS A t = t then c else c + 1) := by
  rw [show (300 - i).toNat = (300 - (i + 1)).toNat + 1 by omega]
  rfl
theorem zRok_S {t i : Int} {A : ZM} (h : zRok t (300 - i).toNat A) (hi : i < 300) : zRst A t ∧ (¬ zNS A t = -1 → zTk A t (zNS A t) (A (59 + 17 * t) (zNS A t)) ∧ zDok (ztake (zup A (59 + 17 * t) (zNS A t) (A (59 + 17 * t) (zNS A t) + 1)) t (zNS A t) (A (59 + 17 * t) (zNS A t))) t ∧ zRok t (300 - (i + 1)).toNat (zRS A t)) := by
  rw [show (300 - i).toNat = (300 - (i + 1)).toNat + 1 by omega] at h
  exact h
theorem zRS_0 {A : ZM} {t : Int} (h : zDok (ztake (zup A (59 + 17 * t) (zNS A t) (A (59 + 17 * t) (zNS A t) + 1)) t (zNS A t) (A (59 + 17 * t) (zNS A t))) t) (h0 : zD (ztake (zup A (59 + 17 * t) (zNS A t) (A (59 + 17 * t) (zNS A t) + 1)) t (zNS A t) (A (59 + 17 * t) (zNS A t))) t (56 + 17 * t) 0 = t) : zRS A t (56 + 17 * t) 0 = t := h0
theorem zDN_row {A : ZM} {t b : Int} (h : b < 67 + 17 * t ∨ 72 + 17 * t < b) (h2 : b ≠ 60 + 17 * t) : zDN A t b = A b := (zup_row h2).trans (zdo_row h)
theorem zDP_row {t b : Int} (h : b < 67 + 17 * t ∨ 72 + 17 * t < b) (h2 : b ≠ 60 + 17 * t) : ∀ (n : Nat) (A : ZM), zDP t n A b = A b
  | 0, A => rfl
  | n + 1, A => by
    unfold zDP
    split
    · rfl
    · rw [zDP_row h h2 n, zDN_row h h2]
theorem zDR_row {A : ZM} {t b : Int} (h : b < 67 + 17 * t ∨ 72 + 17 * t < b) (h2 : b ≠ 60 + 17 * t) : zDR A t b = A b := zfi_keep (P := fun M : ZM => M b = A b) (fun k a q => (zdo_row h).trans q) _ _ _ _ rfl (zup_row h2)
theorem zD_row {A : ZM} {t b : Int} (h : b < 67 + 17 * t ∨ 72 + 17 * t < b) (h2 : b ≠ 60 + 17 * t) : zD A t b = A b := by
  unfold zD
  (repeat' split) <;> first | rfl | rw [zDP_row h h2, zDR_row h h2] | rw [zDP_row h h2]
set_option maxRecDepth 10000 in
theorem zl_55 {d : Nat} {A B : ZM} {s : Int} (hs : 0 ≤ s ∧ s < 3) {i c : Int} {o3 o4 : Option Value} (hi : 0 ≤ i ∧ i ≤ 300) (hc0 : 0 ≤ c ∧ c ≤ i) (hok : zRok s (300 - i).toNat A) {r : Option Value × XS} (hr : r = (some (zci (zRA s (300 - i).toNat A c).1), zhp (zRA s (300 - i).toNat A c).2 B)) : XG (d + 7) 55 4 [some (.ref (56 + 17 * s.toNat)), some (zci c), some (zci i), o3, o4] [] (zhp A B) r := by
  refine xg_step rfl rfl (fun k => rfl) ?_
  refine zg_si rfl (by decide) ?_
  refine zg_lt rfl rfl (fun x y k => rfl) (by first | assumption | exact hA _ _ | exact hB _ _ | exact zrg_max (by assumption) (hA _ _) | (constructor <;> omega)) (by first | assumption | exact hA _ _ | exact hB _ _ | exact zrg_max (by assumption) (hA _ _) | (constructor <;> omega)) (fun hc => ?_) (fun hc => ?_)
  ·
    obtain ⟨⟨hG, hid, hnx, hbr⟩, hok2'⟩ := zRok_S hok (by omega)
    obtain ⟨hA, hcN, g3, g4, g5⟩ := id hG
    have hnr := zNS_rg (A := A) hs
    refine xg_step rfl rfl (fun k => rfl) ?_
    refine zg_cvi rfl rfl rfl (Nat.le_of_ble_eq_true rfl) (zha (by omega)) (zc_Server hs) rfl rfl (zr_56 hs hA hcN hid hnx hbr) ?_
    refine xg_step rfl rfl (fun k => rfl) ?_
    refine xg_step rfl rfl (fun k => rfl) ?_
    refine xg_step rfl rfl (fun k => rfl) ?_
    refine zg_eq rfl rfl (fun x y k => rfl) (by first | assumption | exact hA _ _ | exact hB _ _ | exact zrg_max (by assumption) (hA _ _) | (constructor <;> omega)) (by first | assumption | exact hA _ _ | exact hB _ _ | exact zrg_max (by assumption) (hA _ _) | (constructor <;> omega)) (fun hc => ?_) (fun hc => ?_)
    ·
      refine xg_step rfl rfl (fun k => rfl) ?_
      refine zg_iret rfl rfl zfitI ?_
      first | (rw [hr, show (300 - i).toNat = 0 by omega]; rfl) | rw [hr, zRA_S (by omega), if_pos (by assumption)]
    ·
      obtain ⟨⟨hk1, hm1, hv1, ht1, hc1⟩, hok2, hok3⟩ := hok2' (by assumption)
      have hnk := hnx (zNS A s) (by omega)
      have hM1 : zG (zup A (59 + 17 * s) (zNS A s) (A (59 + 17 * s) (zNS A s) + 1)) := zG_up hG ⟨by omega, by omega⟩ (by omega) (by omega) (by omega) (by omega)
      have hid1 : (zup A (59 + 17 * s) (zNS A s) (A (59 + 17 * s) (zNS A s) + 1)) (56 + 17 * s) 0 = s := (congrFun (zup_row (by omega)) _).trans hid
      rw [← zup_row (A := A) (a := 59 + 17 * s) (i := zNS A s) (x := A (59 + 17 * s) (zNS A s) + 1) (b := 44 + 2 * zNS A s) (by omega)] at hk1
      rw [← zup_row (A := A) (a := 59 + 17 * s) (i := zNS A s) (x := A (59 + 17 * s) (zNS A s) + 1) (b := 45 + 2 * zNS A s) (by omega)] at hm1
      rw [← zup_row (A := A) (a := 59 + 17 * s) (i := zNS A s) (x := A (59 + 17 * s) (zNS A s) + 1) (b := 56 + 17 * s) (by omega)] at hv1
      rw [← zup_row (A := A) (a := 59 + 17 * s) (i := zNS A s) (x := A (59 + 17 * s) (zNS A s) + 1) (b := 60 + 17 * s) (by omega)] at ht1
      rw [← zup_row (A := A) (a := 59 + 17 * s) (i := zNS A s) (x := A (59 + 17 * s) (zNS A s) + 1) (b := 64 + 17 * s) (by omega), ← zup_row (A := A) (a := 59 + 17 * s) (i := zNS A s) (x := A (59 + 17 * s) (zNS A s) + 1) (b := 65 + 17 * s) (by omega)] at hc1
      have hid2 : zRS A s (56 + 17 * s) 0 = s := (congrFun (zD_row (by omega) (by omega)) _).trans hok2.1.2.1
      refine xg_step rfl rfl (fun k => rfl) ?_
      refine xg_get rfl rfl (zha (by omega)) (zc_Server hs) rfl rfl ?_
      refine xg_step rfl rfl (fun k => rfl) ?_
      refine zg_cvi rfl rfl rfl (Nat.le_of_ble_eq_true rfl) (zha (by omega)) (zc_Inbox hs) rfl rfl (zr_31 hs hA (by omega)) ?_
      refine xg_step rfl rfl (fun k => rfl) ?_
      refine xg_step rfl rfl (fun k => rfl) ?_
      refine xg_get rfl rfl (zha (by omega)) (zc_Server hs) rfl rfl ?_
      refine xg_step rfl rfl (fun k => rfl) ?_
      refine zg_cvv rfl rfl rfl (Nat.le_of_ble_eq_true rfl) (zha (by omega)) (zc_Inbox hs) rfl rfl (zr_32 hs hA (by omega)) ?_
      refine xg_step rfl rfl (fun k => rfl) ?_
      refine xg_step rfl rfl (fun k => rfl) ?_
      refine xg_step rfl rfl (fun k => rfl) ?_
      refine zg_cvv rfl rfl rfl (Nat.le_of_ble_eq_true rfl) (zha (by omega)) (zc_Server hs) rfl rfl (zr_58 hs hM1 hid1 (by omega) hk1 hm1 hv1 ht1 hc1) ?_
      refine xg_step rfl rfl (fun k => rfl) ?_
      refine zg_cvv rfl rfl rfl (Nat.le_of_ble_eq_true rfl) (zha (by omega)) (zc_Server hs) rfl rfl (show XR _ _ _ _ (none, zhp (zRS A s) B) from zr_60 hs hok2) ?_
      refine xg_step rfl rfl (fun k => rfl) ?_
      refine xg_step rfl rfl (fun k => rfl) ?_
      refine zg_geti (x := s) rfl rfl (zha (by omega)) (zc_Server hs) rfl hid2 ?_
      refine zg_eq rfl rfl (fun x y k => rfl) (by first | assumption | exact hA _ _ | exact hB _ _ | exact zrg_max (by assumption) (hA _ _) | (constructor <;> omega)) (by first | assumption | exact hA _ _ | exact hB _ _ | exact zrg_max (by assumption) (hA _ _) | (constructor <;> omega)) (fun hc => ?_) (fun hc => ?_)
      ·
        refine zg_inc rfl rfl rfl rfl ?_
        refine xg_step rfl rfl (fun k => rfl) ?_
        exact zl_55 hs (by omega) (by omega) hok3 (hr.trans (by rw [zRA_S (by omega), if_neg (by assumption)]; first | rw [if_pos (by assumption)] | rw [if_neg (by assumption)]))
      ·
        refine zg_inc rfl rfl rfl rfl ?_
        refine zg_inc rfl rfl rfl rfl ?_
        refine xg_step rfl rfl (fun k => rfl) ?_
        exact zl_55 hs (by omega) (by omega) hok3 (hr.trans (by rw [zRA_S (by omega), if_neg (by assumption)]; first | rw [if_pos (by assumption)] | rw [if_neg (by assumption)]))
  ·
    refine xg_step rfl rfl (fun k => rfl) ?_
    refine zg_iret rfl rfl zfitI ?_
    first | (rw [hr, show (300 - i).toNat = 0 by omega]; rfl) | rw [hr, zRA_S (by omega), if_pos (by assumption)]
termination_by (300 - i).toNat
decreasing_by all_goals omega
set_option maxRecDepth 10000 in
theorem zr_55 {d : Nat} {A B : ZM} {s : Int} (hs : 0 ≤ s ∧ s < 3) (hok : zRok s 300 A) : XR (d + 8) 55 [.ref (56 + 17 * s.toNat)] (zhp A B) (some (zci (zRA s 300 A 0).1), zhp (zRA s 300 A 0).2 B) := by
  refine XR.of (Nat.le_of_ble_eq_true rfl) rfl ?_
  refine xg_step rfl rfl (fun k => rfl) ?_
  refine xg_step rfl rfl (fun k => rfl) ?_
  refine xg_step rfl rfl (fun k => rfl) ?_
  refine xg_step rfl rfl (fun k => rfl) ?_
  exact zl_55 hs (i := 0) (c := 0) (by omega) (by omega) hok rfl
