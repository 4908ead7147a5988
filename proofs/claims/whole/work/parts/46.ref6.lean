/-! the reference: what is due -/
theorem zup_cr {M B : ZM} {c k i x : Int} (h : M c = B c) : zup M k i x c = zup B k i x c := by
  funext j
  simp only [zup, h]
theorem zdo_up3 {B : ZM} {t r x : Int} (ht : 0 ≤ t ∧ t < 3) : zdo (zup B (60 + 17 * t) 3 x) t r = zup (zdo B t r) (60 + 17 * t) 3 x := by
  have e : ∀ c : Int, c ≠ 60 + 17 * t → zup B (60 + 17 * t) 3 x c = B c := fun c hc => zup_row hc
  funext c
  by_cases hc : c = 60 + 17 * t
  · subst hc
    rw [zdo_row (by omega)]
    exact zup_cr (zdo_row (by omega)).symm
  · rw [zup_row hc]
    unfold zdo
    (try dsimp only)
    rw [e 3 (by omega), e (69 + 17 * t) (by omega), e 2 (by omega), e (67 + 17 * t) (by omega), e (68 + 17 * t) (by omega), e 5 (by omega), e 4 (by omega), e 6 (by omega)]
    have b1 := e c hc
    split
    · exact zup_cr (zup_cr b1)
    · exact zup_cr (zup_cr (zup_cr (zup_cr (zup_cr (zup_cr b1)))))
theorem zOKr_of {B M : ZM} {t r : Int} (h : zOKr B t r) (hM : zRg M) (h1 : M 1 = B 1) (h2 : M 2 = B 2) (h5 : M 5 = B 5) (h6 : M (67 + 17 * t) = B (67 + 17 * t)) : zOKr M t r := by
  obtain ⟨-, q⟩ := h
  refine ⟨hM, ?_⟩
  rw [h1, h2, h5, h6]
  exact q
theorem zq_127' {d : Nat} {A B C : ZM} (hC : zRg C) {t r x : Int} (ht : 0 ≤ t ∧ t < 3) (hq : zOKr B t r) (hx : zrg x) : XR (d + 1) 127 [.ref 107, zci t, zci r] (zhp A (zmg (zup B (60 + 17 * t) 3 x) C)) (none, zhp A (zmg (zup (zdo B t r) (60 + 17 * t) 3 x) C)) := by
  have hM := zRg_up (a := 60 + 17 * t) (i := 3) hq.1 hx
  rw [← zdo_up3 ht]
  exact zq_127 hM hC ht (zOKr_of hq hM (zup_row (by omega)) (zup_row (by omega)) (zup_row (by omega)) (zup_row (by omega)))
theorem zDP_s {t : Int} {n : Nat} {A : ZM} : zDP t (n + 1) A = if zNT A t = -1 then A else zDP t n (zDN A t) := rfl
set_option maxRecDepth 10000 in
theorem zql_126b {d : Nat} {A B C : ZM} (hB : zRg B) (hC : zRg C) {t w : Int} {o3 o4 : Option Value} (ht : 0 ≤ t ∧ t < 3) (hw : w = B (56 + 17 * t) 7) (hpre : ∀ i, 0 ≤ i ∧ i < B (60 + 17 * t) 2 → 1 ≤ B (61 + 17 * t) i ∧ B (61 + 17 * t) i ≤ 100) (n : Nat) (hn : B (60 + 17 * t) 2 - B (60 + 17 * t) 3 ≤ n) (h3 : 0 ≤ B (60 + 17 * t) 3 ∧ B (60 + 17 * t) 2 ≤ 100) (hok : zDPok t n B) {r : Option Value × XS} (hr : r = (none, zhp A (zmg (zDP t n B) C))) : XG (d + 2) 126 102 [some (.ref 107), some (zci (t)), some (zci (w)), o3, o4] [] (zhp A (zmg B C)) r := by
  have hxr : B (60 + 17 * t) 3 < B (60 + 17 * t) 2 → 1 ≤ B (61 + 17 * t) (B (60 + 17 * t) 3) ∧ B (61 + 17 * t) (B (60 + 17 * t) 3) ≤ 100 := fun q => hpre _ (by omega)
  refine xg_step rfl rfl (fun k => rfl) ?_
  refine xg_get rfl rfl (zha (by decide)) zc_RefM rfl rfl ?_
  refine xg_step rfl rfl (fun k => rfl) ?_
  refine zg_ald (.inl ⟨rfl, rfl⟩) (zha (by decide)) zc_r_prepareDone (by decide) ⟨by omega, by omega⟩ (zvB (zk_prepareDone (by omega)) (by omega)) ?_
  refine xg_step rfl rfl (fun k => rfl) ?_
  refine xg_get rfl rfl (zha (by decide)) zc_RefM rfl rfl ?_
  refine xg_step rfl rfl (fun k => rfl) ?_
  refine zg_ald (.inl ⟨rfl, rfl⟩) (zha (by decide)) zc_r_prepared (by decide) ⟨by omega, by omega⟩ (zvB (zk_prepared (by omega)) (by omega)) ?_
  refine zg_lt rfl rfl (fun x y k => rfl) (by first | assumption | exact hA _ _ | exact hB _ _ | exact hC _ _ | exact zrg_max (by assumption) (hA _ _) | (constructor <;> omega)) (by first | assumption | exact hA _ _ | exact hB _ _ | exact hC _ _ | exact zrg_max (by assumption) (hA _ _) | (constructor <;> omega)) (fun hc => ?_) (fun hc => ?_)
  ·
    refine xg_step rfl rfl (fun k => rfl) ?_
    refine xg_get rfl rfl (zha (by decide)) zc_RefM rfl rfl ?_
    refine zg_bi rfl (by decide) ?_
    refine xg_step rfl rfl (fun k => rfl) ?_
    refine zg_mul rfl ?_
    refine xg_step rfl rfl (fun k => rfl) ?_
    refine xg_get rfl rfl (zha (by decide)) zc_RefM rfl rfl ?_
    refine zg_bi rfl (by decide) ?_
    refine xg_step rfl rfl (fun k => rfl) ?_
    refine zg_mul rfl ?_
    refine xg_step rfl rfl (fun k => rfl) ?_
    refine xg_get rfl rfl (zha (by decide)) zc_RefM rfl rfl ?_
    refine xg_step rfl rfl (fun k => rfl) ?_
    refine zg_ald (.inl ⟨rfl, rfl⟩) (zha (by decide)) zc_r_prepareDone (by decide) ⟨by omega, by omega⟩ (zvB (zk_prepareDone (by omega)) (by omega)) ?_
    refine zg_add rfl ?_
    refine zg_ald (.inl ⟨rfl, rfl⟩) (zha (by decide)) zc_r_prepares (by decide) ⟨by omega, by omega⟩ (zvB (zk_prepares (by omega) (by omega)) (by omega)) ?_
    refine zg_add rfl ?_
    refine zg_ald (.inr ⟨rfl, rfl⟩) (zha (by decide)) zc_r_votes (by decide) ⟨by omega, by omega⟩ (zvB (zk_votes (by omega) (by omega)) (by omega)) ?_
    refine zg_eq0 rfl rfl (fun x k => rfl) (by first | assumption | exact hA _ _ | exact hB _ _ | exact hC _ _ | exact zrg_max (by assumption) (hA _ _) | (constructor <;> omega)) (fun hc => ?_) (fun hc => ?_)
    ·
      refine zg_ret rfl rfl ?_
      (rw [hr]; cases n with | zero => rfl | succ n => rw [zDP_s, if_pos (show zNT B t = -1 from if_neg (fun q => by obtain ⟨q1, q2, q3⟩ := q; omega))])
    ·
      obtain ⟨n1, hn1⟩ : ∃ n1, n = n1 + 1 := ⟨n - 1, by omega⟩
      have hnt : zNT B t = B (61 + 17 * t) (B (60 + 17 * t) 3) := if_pos ⟨by omega, by omega, by assumption⟩
      obtain ⟨hst, hok2⟩ : zST B t ∧ _ := by rw [hn1] at hok; exact hok
      obtain ⟨hok1, hx1, hok3⟩ := hok2 (by omega)
      obtain ⟨hG, hid, hvw, hp2, hp3⟩ := id hst
      have hcN := hG.2.1
      rw [hnt, ← hw] at hok1 hx1
      have hcw := hcN (w % 3) (by omega)
      have hdn : zDN B t = zup (zdo B t (B (45 + 2 * (w % 3)) (B (61 + 17 * t) (B (60 + 17 * t) 3) * 5 + 2))) (60 + 17 * t) 3 (B (60 + 17 * t) 3 + 1) := by unfold zDN; rw [hnt, ← hw]
      refine xg_step rfl rfl (fun k => rfl) ?_
      refine xg_get rfl rfl (zha (by decide)) zc_RefM rfl rfl ?_
      refine zg_bi rfl (by decide) ?_
      refine xg_step rfl rfl (fun k => rfl) ?_
      refine zg_mul rfl ?_
      refine xg_step rfl rfl (fun k => rfl) ?_
      refine xg_get rfl rfl (zha (by decide)) zc_RefM rfl rfl ?_
      refine xg_step rfl rfl (fun k => rfl) ?_
      refine zg_ald (.inl ⟨rfl, rfl⟩) (zha (by decide)) zc_r_prepareDone (by decide) ⟨by omega, by omega⟩ (zvB (zk_prepareDone (by omega)) (by omega)) ?_
      refine zg_add rfl ?_
      refine zg_ald (.inl ⟨rfl, rfl⟩) (zha (by decide)) zc_r_prepares (by decide) ⟨by omega, by omega⟩ (zvB (zk_prepares (by omega) (by omega)) (by omega)) ?_
      refine xg_step rfl rfl (fun k => rfl) ?_
      refine xg_step rfl rfl (fun k => rfl) ?_
      refine xg_get rfl rfl (zha (by decide)) zc_RefM rfl rfl ?_
      refine xg_step rfl rfl (fun k => rfl) ?_
      refine xg_step rfl rfl (fun k => rfl) ?_
      refine zg_ald (.inl ⟨rfl, rfl⟩) (zha (by decide)) zc_r_prepareDone (by decide) ⟨by omega, by omega⟩ (zvB (zk_prepareDone (by omega)) (by omega)) ?_
      refine xg_step rfl rfl (fun k => rfl) ?_
      refine zg_add rfl ?_
      refine zg_ast (.inl ⟨rfl, rfl⟩) (zha (by decide)) zc_r_prepareDone (by decide) ⟨by omega, by omega⟩ (zhwB (zwB (zk_prepareDone (by omega)) zw_r_prepareDone (by omega))) ?_
      refine xg_step rfl rfl (fun k => rfl) ?_
      refine xg_step rfl rfl (fun k => rfl) ?_
      refine xg_step rfl rfl (fun k => rfl) ?_
      refine xg_get rfl rfl (zha (by decide)) zc_RefM rfl rfl ?_
      refine xg_step rfl rfl (fun k => rfl) ?_
      refine xg_step rfl rfl (fun k => rfl) ?_
      refine zg_rem rfl (by omega) ?_
      refine xg_step rfl rfl (fun k => rfl) ?_
      refine zg_csi rfl rfl (by decide) rfl rfl (Nat.le_of_ble_eq_true rfl) rfl (zq_106 (zRg_up hB (by first | assumption | exact hA _ _ | exact hB _ _ | exact hC _ _ | exact zrg_max (by assumption) (hA _ _) | (constructor <;> omega))) hC) ?_
      refine zg_ald (x := B (45 + 2 * (w % 3)) ((B (61 + 17 * t) (B (60 + 17 * t) 3)) * 5 + 2)) (.inl ⟨rfl, rfl⟩) (zha (by decide)) zc_r_as (by decide) ⟨by omega, by omega⟩ ((zvB (zk_as (by omega) (by omega)) (by omega)).trans (zup_ne (by omega))) ?_
      refine zg_cvv rfl rfl rfl (Nat.le_of_ble_eq_true rfl) (zha (by decide)) zc_RefM rfl rfl (zq_127' hC ht hok1 ⟨by omega, by omega⟩) ?_
      refine xg_step rfl rfl (fun k => rfl) ?_
      exact zql_126b (zRg_up (zdo_rg hok1 ht) ⟨by omega, by omega⟩) hC ht (by rw [zup_ne (by omega), zdo_row (by omega)]; exact hw) (by rw [zup_row (b := 61 + 17 * t) (by omega), zdo_row (b := 61 + 17 * t) (by omega), zup_ne (by omega), zdo_row (by omega)]; exact hpre) n1 (by rw [zup_ne (by omega), zup_eq ⟨rfl, rfl⟩, zdo_row (by omega)]; omega) (by rw [zup_eq ⟨rfl, rfl⟩, zup_ne (by omega), zdo_row (by omega)]; omega) (by rw [← hdn]; exact hok3) (by rw [hr, hn1, zDP_s, if_neg (by omega), hdn])
  ·
    refine zg_ret rfl rfl ?_
    (rw [hr]; cases n with | zero => rfl | succ n => rw [zDP_s, if_pos (show zNT B t = -1 from if_neg (fun q => by obtain ⟨q1, q2, q3⟩ := q; omega))])
termination_by n
decreasing_by all_goals omega
set_option maxRecDepth 10000 in
theorem zql_126a {d : Nat} {A B C : ZM} (hB : zRg B) (hC : zRg C) {t w o l q : Int} (ht : 0 ≤ t ∧ t < 3) (hq : 12 ≤ q ∧ q ≤ 42 ∨ 144 ≤ q) (hl : C 107 17 = l) (hl2 : 0 ≤ l ∧ l ≤ 400) (hrow : ∀ j, 0 ≤ j ∧ j < l → C 121 j = B q j) {k : Int} (hk : 0 ≤ k ∧ k ≤ 1000) (hok : zfok (fun k M => zOKr M t (M q k)) (zDRf t q) (l - k).toNat k B) {r : Option Value × XS} (hx : ∀ k1, XG (d + 2) 126 102 [some (.ref 107), some (zci t), some (zci w), some (zci o), some (zci k1)] [] (zhp A (zmg (zfi (zDRf t q) k (l - 1) B) C)) r) : XG (d + 2) 126 75 [some (.ref 107), some (zci (t)), some (zci (w)), some (zci (o)), some (zci (k))] [] (zhp A (zmg B C)) r := by
  refine xg_step rfl rfl (fun k => rfl) ?_
  refine xg_step rfl rfl (fun k => rfl) ?_
  refine xg_get rfl rfl (zha (by decide)) zc_RefM rfl rfl ?_
  refine zg_lt rfl rfl (fun x y k => rfl) (by first | assumption | exact hA _ _ | exact hB _ _ | exact hC _ _ | exact zrg_max (by assumption) (hA _ _) | (constructor <;> omega)) (by first | assumption | exact hA _ _ | exact hB _ _ | exact hC _ _ | exact zrg_max (by assumption) (hA _ _) | (constructor <;> omega)) (fun hc => ?_) (fun hc => ?_)
  ·
    obtain ⟨hok1, hok3⟩ := zfok_S hok (by omega)
    have hrk := hrow k (by omega)
    rw [← hrk] at hok1
    refine xg_step rfl rfl (fun k => rfl) ?_
    refine xg_step rfl rfl (fun k => rfl) ?_
    refine xg_step rfl rfl (fun k => rfl) ?_
    refine xg_get rfl rfl (zha (by decide)) zc_RefM rfl rfl ?_
    refine xg_step rfl rfl (fun k => rfl) ?_
    refine zg_ald (.inl ⟨rfl, rfl⟩) (zha (by decide)) zc_r_row (by decide) ⟨by omega, by omega⟩ (zvC zk_row (by omega)) ?_
    refine zg_cvv rfl rfl rfl (Nat.le_of_ble_eq_true rfl) (zha (by decide)) zc_RefM rfl rfl (zq_127 hB hC ht hok1) ?_
    refine zg_inc rfl rfl rfl rfl ?_
    refine xg_step rfl rfl (fun k => rfl) ?_
    exact zql_126a (zdo_rg hok1 ht) hC ht hq hl hl2 (by rw [zdo_row (by omega)]; exact hrow) (k := k + 1) (by omega) (by have h4 := hok3; unfold zDRf at h4; rw [← hrk] at h4; exact h4) (fun k1 => by have := hx k1; rw [zfi_S (by omega), show zDRf t q k B = zdo B t (C 121 k) from by unfold zDRf; rw [hrk]] at this; exact this)
  ·
    (have := hx k; rw [zfi_N (by omega)] at this; exact this)
termination_by (l - k).toNat
decreasing_by all_goals omega
def zRWok (B C : ZM) (w : Int) : Prop := zchk B 31 w ∧ zad2ok B (zdn B 31 0 w C).2 (zdn B 31 0 w C).2.toNat (zup (zdn B 31 0 w C).1 107 17 0) ∧ zRg (zrwC B w C) ∧ zrwC B w C 107 17 = B (-1) (B 11 w) ∧ (∀ j, 0 ≤ j ∧ j < B (-1) (B 11 w) → zrwC B w C 121 j = B (B 11 w) j) ∧ B (-1) (B 11 w) ≤ 400
/-- what the reference notes of its own as it does what is due -/
def zDC (B : ZM) (t : Int) (C : ZM) : ZM := if ¬ B (56 + 17 * t) 8 = 0 ∧ B (60 + 17 * t) 4 = 0 ∧ zVo B t (B 10 (B (56 + 17 * t) 7)) then zrwC B (B (56 + 17 * t) 7) (zup C 140 t 1) else C
/-- what the reference needs, to do what is due -/
def zDrf (B C : ZM) (t : Int) : Prop := zLI B C ∧ zDok B t ∧ (∀ i, 0 ≤ i ∧ i < B (60 + 17 * t) 2 → 1 ≤ B (61 + 17 * t) i ∧ B (61 + 17 * t) i ≤ 100) ∧ (B (60 + 17 * t) 4 = 0 ↔ (1 ≤ B (56 + 17 * t) 7 ∧ C 140 t = 0)) ∧ B (62 + 17 * t) 0 = 0 ∧ (¬ B (56 + 17 * t) 8 = 0 → B (60 + 17 * t) 4 = 0 → zVo B t (B 10 (B (56 + 17 * t) 7)) → zRWok B (zup C 140 t 1) (B (56 + 17 * t) 7))
theorem zD_0 {B : ZM} {t : Int} (h : B (56 + 17 * t) 8 = 0) : zD B t = B := if_pos h
theorem zD_n {B : ZM} {t : Int} (h1 : ¬ B (56 + 17 * t) 8 = 0) (h2 : B (60 + 17 * t) 4 = 0) (h3 : ¬ zVo B t (B 10 (B (56 + 17 * t) 7))) : zD B t = B := by
  unfold zD
  rw [if_neg h1, if_pos h2, if_neg h3]
theorem zD_r {B : ZM} {t : Int} (h1 : ¬ B (56 + 17 * t) 8 = 0) (h2 : B (60 + 17 * t) 4 = 0) (h3 : zVo B t (B 10 (B (56 + 17 * t) 7))) : zD B t = zDP t 100 (zDR B t) := by
  unfold zD
  rw [if_neg h1, if_pos h2, if_pos h3]
theorem zD_p {B : ZM} {t : Int} (h1 : ¬ B (56 + 17 * t) 8 = 0) (h2 : ¬ B (60 + 17 * t) 4 = 0) : zD B t = zDP t 100 B := by
  unfold zD
  rw [if_neg h1, if_neg h2]
theorem zDC_n {B C : ZM} {t : Int} (h : ¬ (¬ B (56 + 17 * t) 8 = 0 ∧ B (60 + 17 * t) 4 = 0 ∧ zVo B t (B 10 (B (56 + 17 * t) 7)))) : zDC B t C = C := if_neg h
set_option maxRecDepth 10000 in
theorem zq_126 {d : Nat} {A B C : ZM} (hB : zRg B) (hC : zRg C) {t : Int} (ht : 0 ≤ t ∧ t < 3) (hD : zDrf B C t) : XR (d + 14) 126 [.ref 107, zci (t)] (zhp A (zmg B C)) (none, zhp A (zmg (zD B t) (zDC B t C))) := by
  obtain ⟨hL, ⟨⟨hG, hid, hvw, hp2, hp3⟩, hdn, ho⟩, hpre, hOD, hv0, hrw⟩ := hD
  obtain ⟨-, hcN, g3, g4, g5⟩ := id hG
  obtain ⟨w1, w3⟩ := g5 _ hvw
  have ho1 := fun q1 q2 q3 => (ho q1).1 q2 q3
  have ho2 := fun q1 q2 => (ho q1).2 q2
  have hor := zop_rg hL hvw
  refine XR.of (Nat.le_of_ble_eq_true rfl) rfl ?_
  refine xg_step rfl rfl (fun k => rfl) ?_
  refine xg_get rfl rfl (zha (by decide)) zc_RefM rfl rfl ?_
  refine xg_step rfl rfl (fun k => rfl) ?_
  refine zg_ald (.inr ⟨rfl, rfl⟩) (zha (by decide)) zc_r_active (by decide) ⟨by omega, by omega⟩ (zvB (zk_active (by omega)) (by omega)) ?_
  refine zg_eq0 rfl rfl (fun x k => rfl) (by first | assumption | exact hA _ _ | exact hB _ _ | exact hC _ _ | exact zrg_max (by assumption) (hA _ _) | (constructor <;> omega)) (fun hc => ?_) (fun hc => ?_)
  ·
    refine zg_ret rfl rfl ?_
    first | rw [zD_0 (by assumption), zDC_n (fun q => q.1 (by assumption))] | (rw [zD_n (by assumption) (hOD.mpr (by omega)) (fun q => by obtain ⟨q1, q2⟩ := q; first | omega | (rw [show B 10 (B (56 + 17 * t) 7) = 0 by assumption] at q2; omega)), zDC_n (fun q => by obtain ⟨-, -, q1, q2⟩ := q; first | omega | (rw [show B 10 (B (56 + 17 * t) 7) = 0 by assumption] at q2; omega))])
  ·
    refine xg_step rfl rfl (fun k => rfl) ?_
    refine xg_get rfl rfl (zha (by decide)) zc_RefM rfl rfl ?_
    refine xg_step rfl rfl (fun k => rfl) ?_
    refine zg_ald (.inl ⟨rfl, rfl⟩) (zha (by decide)) zc_r_view (by decide) ⟨by omega, by omega⟩ (zvB (zk_view (by omega)) (by omega)) ?_
    refine xg_step rfl rfl (fun k => rfl) ?_
    refine xg_step rfl rfl (fun k => rfl) ?_
    refine zg_gt0 rfl rfl (fun x k => rfl) (by first | assumption | exact hA _ _ | exact hB _ _ | exact hC _ _ | exact zrg_max (by assumption) (hA _ _) | (constructor <;> omega)) (fun hc => ?_) (fun hc => ?_)
    ·
      refine xg_step rfl rfl (fun k => rfl) ?_
      refine xg_get rfl rfl (zha (by decide)) zc_RefM rfl rfl ?_
      refine xg_step rfl rfl (fun k => rfl) ?_
      refine zg_ald (.inr ⟨rfl, rfl⟩) (zha (by decide)) zc_r_openDone (by decide) ⟨by omega, by omega⟩ (zvC zk_openDone (by omega)) ?_
      refine zg_eq0 rfl rfl (fun x k => rfl) (by first | assumption | exact hA _ _ | exact hB _ _ | exact hC _ _ | exact zrg_max (by assumption) (hA _ _) | (constructor <;> omega)) (fun hc => ?_) (fun hc => ?_)
      ·
        refine xg_step rfl rfl (fun k => rfl) ?_
        refine xg_step rfl rfl (fun k => rfl) ?_
        refine zg_cvi rfl rfl rfl (Nat.le_of_ble_eq_true rfl) (zha (by decide)) zc_RefM rfl rfl (zq_111 hB hC hL (by omega)) ?_
        refine xg_step rfl rfl (fun k => rfl) ?_
        refine xg_step rfl rfl (fun k => rfl) ?_
        refine zg_eq0 rfl rfl (fun x k => rfl) (by first | assumption | exact hA _ _ | exact hB _ _ | exact hC _ _ | exact zrg_max (by assumption) (hA _ _) | (constructor <;> omega)) (fun hc => ?_) (fun hc => ?_)
        ·
          refine zg_ret rfl rfl ?_
          first | rw [zD_0 (by assumption), zDC_n (fun q => q.1 (by assumption))] | (rw [zD_n (by assumption) (hOD.mpr (by omega)) (fun q => by obtain ⟨q1, q2⟩ := q; first | omega | (rw [show B 10 (B (56 + 17 * t) 7) = 0 by assumption] at q2; omega)), zDC_n (fun q => by obtain ⟨-, -, q1, q2⟩ := q; first | omega | (rw [show B 10 (B (56 + 17 * t) 7) = 0 by assumption] at q2; omega))])
        ·
          refine xg_step rfl rfl (fun k => rfl) ?_
          refine xg_get rfl rfl (zha (by decide)) zc_RefM rfl rfl ?_
          refine zg_bi rfl (by decide) ?_
          refine xg_step rfl rfl (fun k => rfl) ?_
          refine zg_mul rfl ?_
          refine xg_step rfl rfl (fun k => rfl) ?_
          refine zg_add rfl ?_
          refine zg_ald (.inr ⟨rfl, rfl⟩) (zha (by decide)) zc_r_votes (by decide) ⟨by omega, by omega⟩ (zvB (zk_votes (by omega) (by omega)) (by omega)) ?_
          refine zg_eq0 rfl rfl (fun x k => rfl) (by first | assumption | exact hA _ _ | exact hB _ _ | exact hC _ _ | exact zrg_max (by assumption) (hA _ _) | (constructor <;> omega)) (fun hc => ?_) (fun hc => ?_)
          ·
            refine zg_ret rfl rfl ?_
            first | rw [zD_0 (by assumption), zDC_n (fun q => q.1 (by assumption))] | (rw [zD_n (by assumption) (hOD.mpr (by omega)) (fun q => by obtain ⟨q1, q2⟩ := q; first | omega | (rw [show B 10 (B (56 + 17 * t) 7) = 0 by assumption] at q2; omega)), zDC_n (fun q => by obtain ⟨-, -, q1, q2⟩ := q; first | omega | (rw [show B 10 (B (56 + 17 * t) 7) = 0 by assumption] at q2; omega))])
          ·
            have hfl : B (60 + 17 * t) 4 = 0 := hOD.mpr (by omega)
            have hvo : zVo B t (B 10 (B (56 + 17 * t) 7)) := ⟨by omega, by assumption⟩
            obtain ⟨hw1, hw2, hw3, hw4, hw5, hw6⟩ := hrw (by assumption) hfl hvo
            refine xg_step rfl rfl (fun k => rfl) ?_
            refine xg_get rfl rfl (zha (by decide)) zc_RefM rfl rfl ?_
            refine xg_step rfl rfl (fun k => rfl) ?_
            refine xg_step rfl rfl (fun k => rfl) ?_
            refine zg_ast (.inr ⟨rfl, rfl, by omega⟩) (zha (by decide)) zc_r_openDone (by decide) ⟨by omega, by omega⟩ (zhwB (zwC zk_openDone zw_r_openDone (by omega))) ?_
            refine xg_step rfl rfl (fun k => rfl) ?_
            refine xg_step rfl rfl (fun k => rfl) ?_
            refine zg_cvv rfl rfl rfl (Nat.le_of_ble_eq_true rfl) (zha (by decide)) zc_RefM rfl rfl (zq_119 hB (zRg_up hC ⟨by decide, by decide⟩) (zLI_C hL (zup_row (by omega))) (by omega) hw1 hw2) ?_
            refine xg_step rfl rfl (fun k => rfl) ?_
            refine xg_get rfl rfl (zha (by decide)) zc_RefM rfl rfl ?_
            refine xg_step rfl rfl (fun k => rfl) ?_
            refine zg_ald (.inl ⟨rfl, rfl⟩) (zha (by decide)) zc_r_done (by decide) ⟨by omega, by omega⟩ (zvB (zk_done (by omega)) (by omega)) ?_
            refine xg_step rfl rfl (fun k => rfl) ?_
            rw [← zgh2 (a := 60 + 17 * t) (i := 4) (x := 1) (by unfold zfm2; omega)]
            have q1 : zup B (60 + 17 * t) 4 1 (B 11 (B (56 + 17 * t) 7)) = B (B 11 (B (56 + 17 * t) 7)) := zup_row (by omega)
            refine zql_126a (q := B 11 (B (56 + 17 * t) 7)) (zRg_up hB ⟨by decide, by decide⟩) hw3 ht (by omega) hw4 (by omega) (by rw [q1]; exact hw5) (by omega) (ho1 (by assumption) hfl hvo).1 (fun k1 => ?_)
            have e1 : ∀ b : Int, b < 67 + 17 * t ∨ 72 + 17 * t < b → b ≠ 60 + 17 * t → zDR B t b = B b := fun b => zDR_row
            have e2 : zDR B t (60 + 17 * t) = zup B (60 + 17 * t) 4 1 (60 + 17 * t) := zfi_keep (P := fun M : ZM => M (60 + 17 * t) = zup B (60 + 17 * t) 4 1 (60 + 17 * t)) (fun k a q => (zdo_row (by omega)).trans q) _ _ _ _ rfl rfl
            have e3 : zDR B t (60 + 17 * t) 2 = B (60 + 17 * t) 2 := by rw [e2, zup_ne (by omega)]
            have e4 : zDR B t (60 + 17 * t) 3 = B (60 + 17 * t) 3 := by rw [e2, zup_ne (by omega)]
            have hok4 := (ho1 (by assumption) hfl hvo).2
            exact zql_126b (B := zDR B t) hok4.1.1.1 hw3 ht (by rw [e1 _ (by omega) (by omega)]) (by rw [e1 (61 + 17 * t) (by omega) (by omega), e3]; exact hpre) 100 (by rw [e3, e4]; omega) (by rw [e3, e4]; omega) hok4 (by rw [zD_r (by assumption) hfl hvo]; unfold zDC; rw [if_pos ⟨by assumption, hfl, hvo⟩])
      ·
        have hfl : ¬ B (60 + 17 * t) 4 = 0 := fun q => by have := hOD.mp q; omega
        exact zql_126b hB hC ht rfl hpre 100 (by omega) (by omega) (ho2 (by assumption) hfl) (by rw [zD_p (by assumption) hfl, zDC_n (fun q => hfl q.2.1)])
    ·
      have hfl : ¬ B (60 + 17 * t) 4 = 0 := fun q => by have := hOD.mp q; omega
      exact zql_126b hB hC ht rfl hpre 100 (by omega) (by omega) (ho2 (by assumption) hfl) (by rw [zD_p (by assumption) hfl, zDC_n (fun q => hfl q.2.1)])
