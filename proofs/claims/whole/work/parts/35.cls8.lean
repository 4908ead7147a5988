/-! what is due -/
def zOKr (A : ZM) (t r : Int) : Prop := zRg A ∧ (0 ≤ r ∧ r < A 1 6) ∧ A 1 6 ≤ 60 ∧ (0 ≤ A (67 + 17 * t) 6 ∧ A (67 + 17 * t) 6 < 300) ∧ (0 ≤ A 2 r ∧ A 2 r < 4) ∧ (0 ≤ A 5 r ∧ A 5 r < 4)
theorem zr_68' {d : Nat} {A B : ZM} {s : Int} (hs : 0 ≤ s ∧ s < 3) {r : Int} (h : zOKr A s r) : XR (d + 3) 68 [.ref (67 + 17 * s.toNat), zci r] (zhp A B) (none, zhp (zdo A s r) B) := by
  obtain ⟨hA, h1, h2, h3, h4, h5⟩ := h
  refine zr_68 hs hA h1 h2 h3 h4 h5 ?_
  (repeat' split) <;> first | exact hA _ _ | exact zwr_rg
theorem zdo_row {A : ZM} {t r b : Int} (h : b < 67 + 17 * t ∨ 72 + 17 * t < b) : zdo A t r b = A b := by
  unfold zdo
  try dsimp only
  split
  · rw [zup_row (by omega), zup_row (by omega)]
  · rw [zup_row (by omega), zup_row (by omega), zup_row (by omega), zup_row (by omega), zup_row (by omega), zup_row (by omega)]
def zfok {α : Type} (P : Int → α → Prop) (f : Int → α → α) : Nat → Int → α → Prop
  | 0, _, _ => True
  | n + 1, k, a => P k a ∧ zfok P f n (k + 1) (f k a)
theorem zfok_S {α : Type} {P : Int → α → Prop} {f : Int → α → α} {k l : Int} {a : α} (h : zfok P f (l - k).toNat k a) (hk : k < l) : P k a ∧ zfok P f (l - (k + 1)).toNat (k + 1) (f k a) := by
  rw [show (l - k).toNat = (l - (k + 1)).toNat + 1 by omega] at h
  exact h
def zST (A : ZM) (t : Int) : Prop := zG A ∧ A (56 + 17 * t) 0 = t ∧ (0 ≤ A (56 + 17 * t) 7 ∧ A (56 + 17 * t) 7 < 31) ∧ (0 ≤ A (60 + 17 * t) 2 ∧ A (60 + 17 * t) 2 ≤ 100) ∧ 0 ≤ A (60 + 17 * t) 3
def zNT (A : ZM) (t : Int) : Int := if A (60 + 17 * t) 3 < A (60 + 17 * t) 2 ∧ (0 ≤ A (61 + 17 * t) (A (60 + 17 * t) 3) ∧ A (61 + 17 * t) (A (60 + 17 * t) 3) < 101) ∧ ¬ A (62 + 17 * t) (A (61 + 17 * t) (A (60 + 17 * t) 3)) = 0 then A (61 + 17 * t) (A (60 + 17 * t) 3) else -1
/-- the next PREPARE done -/
def zDN (A : ZM) (t : Int) : ZM := zup (zdo A t (A (45 + 2 * (A (56 + 17 * t) 7 % 3)) (zNT A t * 5 + 2))) (60 + 17 * t) 3 (A (60 + 17 * t) 3 + 1)
def zDP (t : Int) : Nat → ZM → ZM
  | 0, A => A
  | n + 1, A => if zNT A t = -1 then A else zDP t n (zDN A t)
def zDPok (t : Int) : Nat → ZM → Prop
  | 0, _ => True
  | n + 1, A => zST A t ∧ (¬ zNT A t = -1 → zOKr A t (A (45 + 2 * (A (56 + 17 * t) 7 % 3)) (zNT A t * 5 + 2)) ∧ (1 ≤ zNT A t ∧ zNT A t ≤ A (44 + 2 * (A (56 + 17 * t) 7 % 3)) 1) ∧ zDPok t n (zDN A t))
theorem zDP_S {t i : Int} {A : ZM} (h : i < 100) : zDP t (100 - i).toNat A = if zNT A t = -1 then A else zDP t (100 - (i + 1)).toNat (zDN A t) := by
  rw [show (100 - i).toNat = (100 - (i + 1)).toNat + 1 by omega]
  rfl
theorem zDPok_S {t i : Int} {A : ZM} (h : zDPok t (100 - i).toNat A) (hi : i < 100) : zST A t ∧ (¬ zNT A t = -1 → zOKr A t (A (45 + 2 * (A (56 + 17 * t) 7 % 3)) (zNT A t * 5 + 2)) ∧ (1 ≤ zNT A t ∧ zNT A t ≤ A (44 + 2 * (A (56 + 17 * t) 7 % 3)) 1) ∧ zDPok t (100 - (i + 1)).toNat (zDN A t)) := by
  rw [show (100 - i).toNat = (100 - (i + 1)).toNat + 1 by omega] at h
  exact h
set_option maxRecDepth 10000 in
theorem zl_60b {d : Nat} {A B : ZM} {s : Int} (hs : 0 ≤ s ∧ s < 3) {i : Int} {o2 : Option Value} (hi : 0 ≤ i ∧ i ≤ 100) (hok : zDPok s (100 - i).toNat A) {r : Option Value × XS} (hr : r = (none, zhp (zDP s (100 - i).toNat A) B)) : XG (d + 4) 60 92 [some (.ref (56 + 17 * s.toNat)), some (zci i), o2] [] (zhp A B) r := by
  refine xg_step rfl rfl (fun k => rfl) ?_
  refine zg_bi rfl (by decide) ?_
  refine zg_lt rfl rfl (fun x y k => rfl) (by first | assumption | exact hA _ _ | exact hB _ _ | exact zrg_max (by assumption) (hA _ _) | (constructor <;> omega)) (by first | assumption | exact hA _ _ | exact hB _ _ | exact zrg_max (by assumption) (hA _ _) | (constructor <;> omega)) (fun hc => ?_) (fun hc => ?_)
  ·
    obtain ⟨⟨⟨hA, hcN, g3, g4, g5⟩, hid, hs3, hs4, hs5⟩, hok2⟩ := zDPok_S hok (by omega)
    have hnr : zrg (zNT A s) := by unfold zNT; split <;> first | exact hA _ _ | exact ⟨by decide, by decide⟩
    refine xg_step rfl rfl (fun k => rfl) ?_
    refine xg_get rfl rfl (zha (by omega)) (zc_Server hs) rfl rfl ?_
    refine zg_cvi rfl rfl rfl (Nat.le_of_ble_eq_true rfl) (zha (by omega)) (zc_Term hs) rfl rfl (show XR _ _ _ _ (some (zci (zNT A s)), zhp A B) from zr_74 hs hA hs4.2 hs5) ?_
    refine xg_step rfl rfl (fun k => rfl) ?_
    refine zg_eq rfl rfl (fun x y k => rfl) (by first | assumption | exact hA _ _ | exact hB _ _ | exact zrg_max (by assumption) (hA _ _) | (constructor <;> omega)) (by first | assumption | exact hA _ _ | exact hB _ _ | exact zrg_max (by assumption) (hA _ _) | (constructor <;> omega)) (fun hc => ?_) (fun hc => ?_)
    ·
      refine zg_ret rfl rfl ?_
      rw [hr, zDP_S (by omega), if_pos (by assumption)]
    ·
      obtain ⟨hok1, hx1, hok3⟩ := hok2 (by assumption)
      refine xg_step rfl rfl (fun k => rfl) ?_
      refine xg_get rfl rfl (zha (by omega)) (zc_Server hs) rfl rfl ?_
      refine xg_step rfl rfl (fun k => rfl) ?_
      refine xg_get rfl rfl (zha (by omega)) (zc_Server hs) rfl rfl ?_
      refine xg_step rfl rfl (fun k => rfl) ?_
      refine xg_get rfl rfl (zha (by omega)) (zc_Server hs) rfl rfl ?_
      refine zg_csi rfl rfl (by decide) rfl rfl (Nat.le_of_ble_eq_true rfl) rfl (zr_99 hA (by omega)) ?_
      refine xg_step rfl rfl (fun k => rfl) ?_
      refine xg_get rfl rfl (zha (by omega)) (zc_Server hs) rfl rfl ?_
      refine zg_cvi rfl rfl rfl (Nat.le_of_ble_eq_true rfl) (zha (by omega)) (zc_Term hs) rfl rfl (show XR _ _ _ _ (some (zci (zNT A s)), zhp A B) from zr_74 hs hA hs4.2 hs5) ?_
      refine xg_step rfl rfl (fun k => rfl) ?_
      refine zg_cvi rfl rfl rfl (Nat.le_of_ble_eq_true rfl) (zha (by decide)) zc_Book rfl rfl (zreq (x := A (45 + 2 * ((A (56 + 17 * s) 7) % 3)) ((zNT A s) * 5 + 2)) (zr_7 hA (by omega) (by first | assumption | exact hA _ _ | exact hB _ _ | exact zrg_max (by assumption) (hA _ _) | (constructor <;> omega)) (by first | assumption | exact hA _ _ | exact hB _ _ | exact zrg_max (by assumption) (hA _ _) | (constructor <;> omega)) (hcN _ (by omega))) (by rw [if_pos (by omega)])) ?_
      refine zg_cvv rfl rfl rfl (Nat.le_of_ble_eq_true rfl) (zha (by omega)) (zc_Store hs) rfl rfl (zr_68' hs hok1) ?_
      refine xg_step rfl rfl (fun k => rfl) ?_
      refine xg_get rfl rfl (zha (by omega)) (zc_Server hs) rfl rfl ?_
      refine xg_step rfl rfl (fun k => rfl) ?_
      refine zg_geti (x := A (60 + 17 * s) 3) rfl rfl (zha (by omega)) (zc_Term hs) rfl ((congrFun (zdo_row (by omega)) _)) ?_
      refine xg_step rfl rfl (fun k => rfl) ?_
      refine zg_add rfl ?_
      refine zg_put rfl rfl (zha (by omega)) (zc_Term hs) (Nat.le_of_ble_eq_true rfl) rfl zfitI rfl (zhwA (by omega) (zw_Term_3 hs)) ?_
      refine zg_inc rfl rfl rfl rfl ?_
      refine xg_step rfl rfl (fun k => rfl) ?_
      exact zl_60b hs (by omega) hok3 (hr.trans (by rw [zDP_S (by omega), if_neg (by assumption)]; try rfl))
  ·
    refine zg_ret rfl rfl ?_
    (rw [hr, show (100 - i).toNat = 0 by omega]; rfl)
termination_by (100 - i).toNat
decreasing_by all_goals omega
/-- the row of its view done, from where it stands -/
def zDRf (t q k : Int) (M : ZM) : ZM := zdo M t (M q k)
theorem zdo_rg {A : ZM} {t r : Int} (h : zOKr A t r) (ht : 0 ≤ t ∧ t < 3) : zRg (zdo A t r) := by
  obtain ⟨hA, h1, h2, h3, h4, h5⟩ := h
  have r1 : zrg r := ⟨by omega, by omega⟩
  have r2 : zrg (A (67 + 17 * t) 6 + 1) := ⟨by omega, by omega⟩
  have r3 : zrg (if A 4 r = 0 then A (68 + 17 * t) (A 5 r) else if A 4 r = 1 then A 6 r else zwr (A (68 + 17 * t) (A 5 r) + A 6 r)) := by (repeat' split) <;> first | exact hA _ _ | exact zwr_rg
  have r4 : zrg (if A 4 r = 2 then zwr (A (68 + 17 * t) (A 5 r) + A 6 r) else A (68 + 17 * t) (A 5 r)) := by (repeat' split) <;> first | exact hA _ _ | exact zwr_rg
  have q1 := zRg_up (a := 67 + 17 * t) (i := 6) (zRg_up (a := 70 + 17 * t) (i := A (67 + 17 * t) 6) hA r1) r2
  unfold zdo
  try dsimp only
  split
  · exact q1
  · exact zRg_up (zRg_up (zRg_up (zRg_up q1 (hA _ _)) r3) ⟨by decide, by decide⟩) r4
set_option maxRecDepth 10000 in
theorem zl_60a {d : Nat} {A B : ZM} {s : Int} (hs : 0 ≤ s ∧ s < 3) {q : Nat} {l : Int} (hA : zRg A) (hzq : zrow q = true) (hq : (q : Int) < 144 + A (-2) 0) (hl : A (-1) q = l) (hl2 : 0 ≤ l ∧ l ≤ 1000) (k : Int) (hk : 0 ≤ k ∧ k ≤ 1000) (hok : zfok (fun k M => zOKr M s (M q k)) (zDRf s q) (l - k).toNat k A) {r : Option Value × XS} (hx : ∀ k1, XG (d + 4) 60 90 [some (.ref (56 + 17 * s.toNat)), some (.ref q), some (zci k1)] [] (zhp (zfi (zDRf s q) k (l - 1) A) B) r) : XG (d + 4) 60 68 [some (.ref (56 + 17 * s.toNat)), some (.ref q), some (zci (k))] [] (zhp A B) r := by
  refine xg_step rfl rfl (fun k => rfl) ?_
  refine xg_step rfl rfl (fun k => rfl) ?_
  refine zg_len (x := A (-1) q) rfl (zhb (by omega)) (zc_rowcell hzq) (Int.toNat_of_nonneg (by omega)) ?_
  refine zg_lt rfl rfl (fun x y k => rfl) (by first | assumption | exact hA _ _ | exact hB _ _ | exact zrg_max (by assumption) (hA _ _) | (constructor <;> omega)) (by first | assumption | exact hA _ _ | exact hB _ _ | exact zrg_max (by assumption) (hA _ _) | (constructor <;> omega)) (fun hc => ?_) (fun hc => ?_)
  ·
    obtain ⟨hok1, hok3⟩ := zfok_S hok (by omega)
    refine xg_step rfl rfl (fun k => rfl) ?_
    refine xg_get rfl rfl (zha (by omega)) (zc_Server hs) rfl rfl ?_
    refine xg_step rfl rfl (fun k => rfl) ?_
    refine xg_step rfl rfl (fun k => rfl) ?_
    refine zg_ald (.inl ⟨rfl, rfl⟩) (zhb (by omega)) (zc_rowcell hzq) (by omega) ⟨by omega, by omega⟩ rfl ?_
    refine zg_cvv rfl rfl rfl (Nat.le_of_ble_eq_true rfl) (zha (by omega)) (zc_Store hs) rfl rfl (zr_68' hs hok1) ?_
    refine zg_inc rfl rfl rfl rfl ?_
    refine xg_step rfl rfl (fun k => rfl) ?_
    exact zl_60a hs (zdo_rg hok1 hs) hzq (by rw [zdo_row (by omega)]; exact hq) (by rw [zdo_row (by omega)]; exact hl) hl2 (k + 1) (by omega) hok3 (fun k1 => by have := hx k1; rw [zfi_S (by omega)] at this; exact this)
  ·
    (have := hx k; rw [zfi_N (by omega)] at this; exact this)
termination_by (l - k).toNat
decreasing_by all_goals omega
def zDR (A : ZM) (t : Int) : ZM := zfi (zDRf t (A 11 (A (56 + 17 * t) 7))) (A (67 + 17 * t) 6) (A (-1) (A 11 (A (56 + 17 * t) 7)) - 1) (zup A (60 + 17 * t) 4 1)
abbrev zVo (A : ZM) (t k : Int) : Prop := (0 ≤ k ∧ k < 101) ∧ ¬ A (62 + 17 * t) k = 0
/-- all that is due -/
def zD (A : ZM) (t : Int) : ZM := if A (56 + 17 * t) 8 = 0 then A else if A (60 + 17 * t) 4 = 0 then (if zVo A t (A 10 (A (56 + 17 * t) 7)) then zDP t 100 (zDR A t) else A) else zDP t 100 A
def zDok (A : ZM) (t : Int) : Prop := zST A t ∧ (0 ≤ A (67 + 17 * t) 6 ∧ A (67 + 17 * t) 6 ≤ 300) ∧ (¬ A (56 + 17 * t) 8 = 0 → (A (60 + 17 * t) 4 = 0 → zVo A t (A 10 (A (56 + 17 * t) 7)) → zfok (fun k M => zOKr M t (M (A 11 (A (56 + 17 * t) 7)) k)) (zDRf t (A 11 (A (56 + 17 * t) 7))) (A (-1) (A 11 (A (56 + 17 * t) 7)) - A (67 + 17 * t) 6).toNat (A (67 + 17 * t) 6) (zup A (60 + 17 * t) 4 1) ∧ zDPok t 100 (zDR A t)) ∧ (¬ A (60 + 17 * t) 4 = 0 → zDPok t 100 A))
set_option maxRecDepth 10000 in
theorem zr_9 {d : Nat} {A B : ZM} {v : Int} {q : Nat} (hA : zRg A) (hv : 0 ≤ v ∧ v < 31) (hq : (A 11 v).toNat = q) : XR (d + 1) 9 [.ref 8, zci v] (zhp A B) (some (.ref q), zhp A B) := by
  refine XR.of (Nat.le_of_ble_eq_true rfl) rfl ?_
  refine xg_step rfl rfl (fun k => rfl) ?_
  refine xg_get rfl rfl (zha (by decide)) zc_Book rfl rfl ?_
  refine xg_step rfl rfl (fun k => rfl) ?_
  refine zg_aald (b := q) rfl (zha (by decide)) zc_rows (by decide) (by decide) ⟨by omega, by omega⟩ ((if_pos (by omega)).trans (by rw [Int.toNat_of_nonneg hv.1, hq])) ?_
  exact zg_aret rfl rfl rfl rfl
set_option maxRecDepth 10000 in
theorem zr_60 {d : Nat} {A B : ZM} {s : Int} (hs : 0 ≤ s ∧ s < 3) (hok : zDok A s) : XR (d + 5) 60 [.ref (56 + 17 * s.toNat)] (zhp A B) (none, zhp (zD A s) B) := by
  obtain ⟨⟨hG, hid, hs3, hs4, hs5⟩, hdn, ho⟩ := hok
  obtain ⟨hA, hcN, g3, g4, g5⟩ := hG
  obtain ⟨w1, w3⟩ := g5 _ hs3
  have hqc : (((A 11 (A (56 + 17 * s) 7)).toNat : Nat) : Int) = A 11 (A (56 + 17 * s) 7) := by omega
  have hzq : zrow (A 11 (A (56 + 17 * s) 7)).toNat = true := by simp only [zrow, Bool.or_eq_true, Bool.and_eq_true, decide_eq_true_eq]; omega
  have ho1 := fun q1 q2 q3 => (ho q1).1 q2 q3
  have ho2 := fun q1 q2 => (ho q1).2 q2
  refine XR.of (Nat.le_of_ble_eq_true rfl) rfl ?_
  refine xg_step rfl rfl (fun k => rfl) ?_
  refine xg_get rfl rfl (zha (by omega)) (zc_Server hs) rfl rfl ?_
  refine zg_eq0 rfl rfl (fun x k => rfl) (by first | assumption | exact hA _ _ | exact hB _ _ | exact zrg_max (by assumption) (hA _ _) | (constructor <;> omega)) (fun hc => ?_) (fun hc => ?_)
  ·
    refine zg_ret rfl rfl ?_
    (unfold zD; first | rw [if_pos (by assumption)] | rw [if_neg (by assumption), if_pos (by assumption), if_neg (by assumption)])
  ·
    refine xg_step rfl rfl (fun k => rfl) ?_
    refine xg_get rfl rfl (zha (by omega)) (zc_Server hs) rfl rfl ?_
    refine xg_get rfl rfl (zha (by omega)) (zc_Term hs) rfl rfl ?_
    refine zg_eq0 rfl rfl (fun x k => rfl) (by first | assumption | exact hA _ _ | exact hB _ _ | exact zrg_max (by assumption) (hA _ _) | (constructor <;> omega)) (fun hc => ?_) (fun hc => ?_)
    ·
      refine xg_step rfl rfl (fun k => rfl) ?_
      refine xg_get rfl rfl (zha (by omega)) (zc_Server hs) rfl rfl ?_
      refine xg_step rfl rfl (fun k => rfl) ?_
      refine xg_get rfl rfl (zha (by omega)) (zc_Server hs) rfl rfl ?_
      refine xg_step rfl rfl (fun k => rfl) ?_
      refine xg_get rfl rfl (zha (by omega)) (zc_Server hs) rfl rfl ?_
      refine zg_cvi rfl rfl rfl (Nat.le_of_ble_eq_true rfl) (zha (by decide)) zc_Book rfl rfl (zr_8 hA (by omega)) ?_
      refine zg_cvb rfl rfl rfl (Nat.le_of_ble_eq_true rfl) (zha (by omega)) (zc_Term hs) rfl rfl (zr_73 hs hA (by first | assumption | exact hA _ _ | exact hB _ _ | exact zrg_max (by assumption) (hA _ _) | (constructor <;> omega))) (fun hc => ?_) (fun hc => ?_)
      ·
        refine xg_step rfl rfl (fun k => rfl) ?_
        refine xg_step rfl rfl (fun k => rfl) ?_
        refine xg_get rfl rfl (zha (by omega)) (zc_Server hs) rfl rfl ?_
        refine xg_step rfl rfl (fun k => rfl) ?_
        refine zg_put rfl rfl (zha (by omega)) (zc_Term hs) (Nat.le_of_ble_eq_true rfl) rfl (zfitZ (by omega)) rfl (zhwA (by omega) (zw_Term_4 hs)) ?_
        refine xg_step rfl rfl (fun k => rfl) ?_
        refine xg_get rfl rfl (zha (by omega)) (zc_Server hs) rfl rfl ?_
        refine xg_step rfl rfl (fun k => rfl) ?_
        refine zg_geti (x := A (56 + 17 * s) 7) rfl rfl (zha (by omega)) (zc_Server hs) rfl (zup_ne (by omega)) ?_
        refine zg_cvi rfl rfl rfl (Nat.le_of_ble_eq_true rfl) (zha (by decide)) zc_Book rfl rfl (zr_9 (q := (A 11 (A (56 + 17 * s) 7)).toNat) (zRg_up hA (by first | assumption | exact hA _ _ | exact hB _ _ | exact zrg_max (by assumption) (hA _ _) | (constructor <;> omega))) (by omega) (by rw [zup_row (by omega)])) ?_
        refine xg_step rfl rfl (fun k => rfl) ?_
        refine xg_step rfl rfl (fun k => rfl) ?_
        refine xg_get rfl rfl (zha (by omega)) (zc_Server hs) rfl rfl ?_
        refine zg_cvi rfl rfl rfl (Nat.le_of_ble_eq_true rfl) (zha (by omega)) (zc_Store hs) rfl rfl (zreq (x := A (67 + 17 * s) 6) (zr_62 hs (zRg_up hA (by first | assumption | exact hA _ _ | exact hB _ _ | exact zrg_max (by assumption) (hA _ _) | (constructor <;> omega)))) (zup_ne (by omega))) ?_
        refine xg_step rfl rfl (fun k => rfl) ?_
        exact zl_60a hs (zRg_up hA (by first | assumption | exact hA _ _ | exact hB _ _ | exact zrg_max (by assumption) (hA _ _) | (constructor <;> omega))) hzq (by rw [zup_row (by omega), hqc]; omega) (by rw [zup_row (by omega), hqc]) w3 (A (67 + 17 * s) 6) (by omega) (by rw [hqc]; exact (ho1 (by assumption) (by assumption) (by assumption)).1) (fun k1 => xg_step rfl rfl (fun k => rfl) (xg_step rfl rfl (fun k => rfl) (zl_60b hs (i := 0) (by omega) (by rw [hqc]; exact (ho1 (by assumption) (by assumption) (by assumption)).2) (by rw [hqc]; unfold zD; rw [if_neg (by assumption), if_pos (by assumption), if_pos (by assumption)]; rfl))))
      ·
        refine xg_step rfl rfl (fun k => rfl) ?_
        refine zg_ret rfl rfl ?_
        (unfold zD; first | rw [if_pos (by assumption)] | rw [if_neg (by assumption), if_pos (by assumption), if_neg (by assumption)])
    ·
      refine xg_step rfl rfl (fun k => rfl) ?_
      refine xg_step rfl rfl (fun k => rfl) ?_
      exact zl_60b hs (i := 0) (by omega) (ho2 (by assumption) (by assumption)) (by unfold zD; rw [if_neg (by assumption), if_neg (by assumption)]; rfl)
