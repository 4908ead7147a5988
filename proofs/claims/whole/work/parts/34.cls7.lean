/-! what a server does with a message -/
def zput (A : ZM) (t k : Int) : ZM := if A (60 + 17 * t) 2 < 100 then zup (zup A (61 + 17 * t) (A (60 + 17 * t) 2) k) (60 + 17 * t) 2 (A (60 + 17 * t) 2 + 1) else A
def zvote (A : ZM) (t k : Int) : ZM := if 0 ≤ k ∧ k < 101 then zup A (62 + 17 * t) k 1 else A
theorem zput_row {A : ZM} {t k b : Int} (h1 : b ≠ 60 + 17 * t) (h2 : b ≠ 61 + 17 * t) : zput A t k b = A b := by
  unfold zput
  split
  · rw [zup_row h1, zup_row h2]
  · rfl
theorem znote_row {A : ZM} {t v p b : Int} (h1 : b ≠ 64 + 17 * t) (h2 : b ≠ 65 + 17 * t) : znote A t v p b = A b := by
  unfold znote
  (repeat' split) <;> first | rfl | rw [zup_row h1] | rw [zup_row h2]
theorem zclr_row {A : ZM} {t k l b : Int} (h : b ≠ 62 + 17 * t) : zfi (zclr t) k l A b = A b := zfi_keep (P := fun M : ZM => M b = A b) (fun k a q => (zup_row h).trans q) _ k l A rfl rfl
theorem zturn_row {A : ZM} {t w on b : Int} (h1 : b ≠ 56 + 17 * t) (h2 : b ≠ 60 + 17 * t) (h3 : b ≠ 62 + 17 * t) : zturn A t w on b = A b := by
  unfold zturn zbeg
  rw [zclr_row h3, zup_row h2, zup_row h2, zup_row h2, zup_row h1, zup_row h1]
theorem zturn_7 {A : ZM} {t w on : Int} : zturn A t w on (56 + 17 * t) 7 = w := by
  unfold zturn zbeg
  rw [zclr_row (by omega), zup_row (by omega), zup_row (by omega), zup_row (by omega), zup_ne (by omega), zup_eq ⟨rfl, rfl⟩]
theorem zturn_0 {A : ZM} {t w on : Int} : zturn A t w on (56 + 17 * t) 0 = A (56 + 17 * t) 0 := by
  unfold zturn zbeg
  rw [zclr_row (by omega), zup_row (by omega), zup_row (by omega), zup_row (by omega), zup_ne (by omega), zup_ne (by omega)]
theorem zclr_rg {A : ZM} {t k l : Int} (h : zRg A) : zRg (zfi (zclr t) k l A) := zfi_keep (P := zRg) (fun k a q => zRg_up q ⟨by decide, by decide⟩) _ k l A rfl h
theorem zbeg_rg {A : ZM} {t : Int} (h : zRg A) : zRg (zbeg A t) := zclr_rg (zRg_up (zRg_up (zRg_up h ⟨by decide, by decide⟩) ⟨by decide, by decide⟩) ⟨by decide, by decide⟩)
/-- zG of a memory that is alike where it counts -/
theorem zG_of {A M : ZM} (h : zG A) (hM : zRg M) (h1 : M (-2) = A (-2)) (h2 : M (-1) = A (-1)) (h3 : M 11 = A 11) (h4 : ∀ s, 0 ≤ s ∧ s < 3 → M (44 + 2 * s) = A (44 + 2 * s)) : zG M := by
  obtain ⟨q1, q2, q3, q4, q5⟩ := h
  refine ⟨hM, fun s hs => ?_, ?_, ?_, ?_⟩
  · rw [h4 s hs]; exact q2 s hs
  · rw [h1]; exact q3
  · rw [h1]; exact q4
  · rw [h1, h2, h3]; exact q5
theorem zput_rg {A : ZM} {t k : Int} (h : zRg A) (hk : zrg k) : zRg (zput A t k) := by
  unfold zput
  split
  · exact zRg_up (zRg_up h hk) ⟨by have := (h (60 + 17 * t) 2).1; omega, by omega⟩
  · exact h
theorem znote_rg {A : ZM} {t v p : Int} (h : zRg A) (hp : zrg p) : zRg (znote A t v p) := by
  unfold znote
  (repeat' split) <;> first | exact zRg_up h hp | exact h
theorem zturn_rg {A : ZM} {t w on : Int} (h : zRg A) (hw : zrg w) (hon : zrg on) : zRg (zturn A t w on) := zbeg_rg (zRg_up (zRg_up h hw) hon)
theorem zG_put {A : ZM} {t k : Int} (h : zG A) (ht : 0 ≤ t ∧ t < 3) (hk : zrg k) : zG (zput A t k) := zG_of h (zput_rg h.1 hk) (zput_row (by omega) (by omega)) (zput_row (by omega) (by omega)) (zput_row (by omega) (by omega)) (fun s hs => zput_row (by omega) (by omega))
theorem zG_note {A : ZM} {t v p : Int} (h : zG A) (ht : 0 ≤ t ∧ t < 3) (hp : zrg p) : zG (znote A t v p) := zG_of h (znote_rg h.1 hp) (znote_row (by omega) (by omega)) (znote_row (by omega) (by omega)) (znote_row (by omega) (by omega)) (fun s hs => znote_row (by omega) (by omega))
theorem zG_turn {A : ZM} {t w on : Int} (h : zG A) (ht : 0 ≤ t ∧ t < 3) (hw : zrg w) (hon : zrg on) : zG (zturn A t w on) := zG_of h (zturn_rg h.1 hw hon) (zturn_row (by omega) (by omega) (by omega)) (zturn_row (by omega) (by omega) (by omega)) (zturn_row (by omega) (by omega) (by omega)) (fun s hs => zturn_row (by omega) (by omega) (by omega))
def ztake (A : ZM) (t p k : Int) : ZM :=
  if ¬ A (45 + 2 * p) (k * 5 + 4) = 0 ∨ A (45 + 2 * p) (k * 5 + 1) < A (56 + 17 * t) 7 then A
  else if A (45 + 2 * p) (k * 5 + 0) = 0 then (if p = t then zput A t k else zentF (zput A t k) t 1 (A (56 + 17 * t) 7) k 0)
  else if A (45 + 2 * p) (k * 5 + 0) = 1 then zvote A t (A (45 + 2 * p) (k * 5 + 2))
  else if A (45 + 2 * p) (k * 5 + 0) = 2 then
    (if A (45 + 2 * p) (k * 5 + 1) = A (56 + 17 * t) 7 ∧ A (56 + 17 * t) 8 = 0 ∧ A (56 + 17 * t) 7 % 3 = t ∧ ¬ znote A t (A (45 + 2 * p) (k * 5 + 1)) (k * 3 + p) (65 + 17 * t) (A (56 + 17 * t) 7) = 0 then zentF (znote A t (A (45 + 2 * p) (k * 5 + 1)) (k * 3 + p)) t 3 (A (56 + 17 * t) 7) (znote A t (A (45 + 2 * p) (k * 5 + 1)) (k * 3 + p) (64 + 17 * t) (A (56 + 17 * t) 7)) (znote A t (A (45 + 2 * p) (k * 5 + 1)) (k * 3 + p) (65 + 17 * t) (A (56 + 17 * t) 7))
    else znote A t (A (45 + 2 * p) (k * 5 + 1)) (k * 3 + p))
  else if A (56 + 17 * t) 7 < A (45 + 2 * p) (k * 5 + 1) ∨ A (56 + 17 * t) 8 = 0 then (if p = t then zturn A t (A (45 + 2 * p) (k * 5 + 1)) 1 else zentF (zturn A t (A (45 + 2 * p) (k * 5 + 1)) 1) t 1 (A (45 + 2 * p) (k * 5 + 1)) k 0)
  else A
set_option maxRecDepth 10000 in
theorem zr_58 {d : Nat} {A B : ZM} {s : Int} (hs : 0 ≤ s ∧ s < 3) (hG : zG A) (hid : A (56 + 17 * s) 0 = s) {p k : Int} (hp : 0 ≤ p ∧ p < 3) (hk : 1 ≤ k ∧ k ≤ A (44 + 2 * p) 1) (hm : (0 ≤ A (45 + 2 * p) (k * 5 + 0) ∧ A (45 + 2 * p) (k * 5 + 0) < 4) ∧ (0 ≤ A (45 + 2 * p) (k * 5 + 1) ∧ A (45 + 2 * p) (k * 5 + 1) < 31)) (hvw : 0 ≤ A (56 + 17 * s) 7 ∧ A (56 + 17 * s) 7 < 31) (ht : 0 ≤ A (60 + 17 * s) 2) (hch : ∀ w, 0 ≤ w ∧ w < 31 → (0 ≤ A (64 + 17 * s) w ∧ A (64 + 17 * s) w < 1000) ∧ (0 ≤ A (65 + 17 * s) w ∧ A (65 + 17 * s) w < 1000)) : XR (d + 6) 58 [.ref (56 + 17 * s.toNat), zci (p), zci (k)] (zhp A B) (none, zhp (ztake A s p k) B) := by
  obtain ⟨hA, hcN, g3, g4, g5⟩ := id hG
  have hcp := hcN p hp
  have hkr : zrg k := ⟨by omega, by omega⟩
  have hGp : zG (zput A s k) := zG_put hG hs hkr
  have hGn : zG (znote A s (A (45 + 2 * p) (k * 5 + 1)) (k * 3 + p)) := zG_note hG hs ⟨by omega, by omega⟩
  have hGt : zG (zturn A s (A (45 + 2 * p) (k * 5 + 1)) 1) := zG_turn hG hs ⟨by omega, by omega⟩ ⟨by decide, by decide⟩
  have hch1 : ∀ w, 0 ≤ w ∧ w < 31 → 0 ≤ A (64 + 17 * s) w ∧ A (64 + 17 * s) w < 2147483648 := fun w hw => by have := (hch w hw).1; omega
  have hn1 : 0 ≤ (znote A s (A (45 + 2 * p) (k * 5 + 1)) (k * 3 + p)) (64 + 17 * s) (A (56 + 17 * s) 7) ∧ (znote A s (A (45 + 2 * p) (k * 5 + 1)) (k * 3 + p)) (64 + 17 * s) (A (56 + 17 * s) 7) < 1000 := by
    have q := hch _ hvw
    unfold znote
    (repeat' split) <;> ((try unfold zup); (repeat' split) <;> omega)
  have hn2 : 0 ≤ (znote A s (A (45 + 2 * p) (k * 5 + 1)) (k * 3 + p)) (65 + 17 * s) (A (56 + 17 * s) 7) ∧ (znote A s (A (45 + 2 * p) (k * 5 + 1)) (k * 3 + p)) (65 + 17 * s) (A (56 + 17 * s) 7) < 1000 := by
    have q := hch _ hvw
    unfold znote
    (repeat' split) <;> ((try unfold zup); (repeat' split) <;> omega)
  refine XR.of (Nat.le_of_ble_eq_true rfl) rfl ?_
  refine xg_step rfl rfl (fun k => rfl) ?_
  refine xg_get rfl rfl (zha (by omega)) (zc_Server hs) rfl rfl ?_
  refine xg_step rfl rfl (fun k => rfl) ?_
  refine xg_step rfl rfl (fun k => rfl) ?_
  refine xg_step rfl rfl (fun k => rfl) ?_
  refine zg_cvi rfl rfl rfl (Nat.le_of_ble_eq_true rfl) (zha (by decide)) zc_Book rfl rfl (zreq (x := A (45 + 2 * p) (k * 5 + 1)) (zr_7 hA hp (by first | assumption | exact hA _ _ | exact hB _ _ | exact zrg_max (by assumption) (hA _ _) | (constructor <;> omega)) (by first | assumption | exact hA _ _ | exact hB _ _ | exact zrg_max (by assumption) (hA _ _) | (constructor <;> omega)) (hcN _ (by omega))) (by rw [if_pos (by omega)])) ?_
  refine xg_step rfl rfl (fun k => rfl) ?_
  refine xg_step rfl rfl (fun k => rfl) ?_
  refine xg_get rfl rfl (zha (by omega)) (zc_Server hs) rfl rfl ?_
  refine xg_step rfl rfl (fun k => rfl) ?_
  refine xg_step rfl rfl (fun k => rfl) ?_
  refine xg_step rfl rfl (fun k => rfl) ?_
  refine zg_cvi rfl rfl rfl (Nat.le_of_ble_eq_true rfl) (zha (by decide)) zc_Book rfl rfl (zreq (x := A (45 + 2 * p) (k * 5 + 4)) (zr_7 hA hp (by first | assumption | exact hA _ _ | exact hB _ _ | exact zrg_max (by assumption) (hA _ _) | (constructor <;> omega)) (by first | assumption | exact hA _ _ | exact hB _ _ | exact zrg_max (by assumption) (hA _ _) | (constructor <;> omega)) (hcN _ (by omega))) (by rw [if_pos (by omega)])) ?_
  refine zg_eq0 rfl rfl (fun x k => rfl) (by first | assumption | exact hA _ _ | exact hB _ _ | exact zrg_max (by assumption) (hA _ _) | (constructor <;> omega)) (fun hc => ?_) (fun hc => ?_)
  ·
    refine xg_step rfl rfl (fun k => rfl) ?_
    refine xg_step rfl rfl (fun k => rfl) ?_
    refine xg_get rfl rfl (zha (by omega)) (zc_Server hs) rfl rfl ?_
    refine zg_lt rfl rfl (fun x y k => rfl) (by first | assumption | exact hA _ _ | exact hB _ _ | exact zrg_max (by assumption) (hA _ _) | (constructor <;> omega)) (by first | assumption | exact hA _ _ | exact hB _ _ | exact zrg_max (by assumption) (hA _ _) | (constructor <;> omega)) (fun hc => ?_) (fun hc => ?_)
    ·
      refine zg_ret rfl rfl ?_
      unfold ztake; first | rw [if_pos (by omega)] | rw [if_neg (by omega), if_pos (by omega), if_pos (by omega)] | rw [if_neg (by omega), if_pos (by omega), if_neg (by omega)] | rw [if_neg (by omega), if_neg (by omega), if_pos (by omega)] | rw [if_neg (by omega), if_neg (by omega), if_neg (by omega), if_pos (by omega), if_pos (by omega)] | rw [if_neg (by omega), if_neg (by omega), if_neg (by omega), if_pos (by omega), if_neg (by omega)] | rw [if_neg (by omega), if_neg (by omega), if_neg (by omega), if_neg (by omega), if_pos (by omega), if_pos (by omega)] | rw [if_neg (by omega), if_neg (by omega), if_neg (by omega), if_neg (by omega), if_pos (by omega), if_neg (by omega)] | rw [if_neg (by omega), if_neg (by omega), if_neg (by omega), if_neg (by omega), if_neg (by omega)]
    ·
      refine xg_step rfl rfl (fun k => rfl) ?_
      refine zg_bi rfl (by decide) ?_
      refine zg_lt rfl rfl (fun x y k => rfl) (by first | assumption | exact hA _ _ | exact hB _ _ | exact zrg_max (by assumption) (hA _ _) | (constructor <;> omega)) (by first | assumption | exact hA _ _ | exact hB _ _ | exact zrg_max (by assumption) (hA _ _) | (constructor <;> omega)) (fun hc => ?_) (fun hc => ?_)
      ·
        refine xg_step rfl rfl (fun k => rfl) ?_
        refine xg_get rfl rfl (zha (by omega)) (zc_Server hs) rfl rfl ?_
        refine xg_step rfl rfl (fun k => rfl) ?_
        refine xg_step rfl rfl (fun k => rfl) ?_
        refine xg_step rfl rfl (fun k => rfl) ?_
        refine zg_cvi rfl rfl rfl (Nat.le_of_ble_eq_true rfl) (zha (by decide)) zc_Book rfl rfl (zreq (x := A (45 + 2 * p) (k * 5 + 0)) (zr_7 hA hp (by first | assumption | exact hA _ _ | exact hB _ _ | exact zrg_max (by assumption) (hA _ _) | (constructor <;> omega)) (by first | assumption | exact hA _ _ | exact hB _ _ | exact zrg_max (by assumption) (hA _ _) | (constructor <;> omega)) (hcN _ (by omega))) (by rw [if_pos (by omega)])) ?_
        refine zg_swi 0 rfl rfl (fun k => rfl) (fun hc => ?_) (fun hc => ?_)
        ·
          refine xg_step rfl rfl (fun k => rfl) ?_
          refine xg_get rfl rfl (zha (by omega)) (zc_Server hs) rfl rfl ?_
          refine xg_step rfl rfl (fun k => rfl) ?_
          refine zg_cvv rfl rfl rfl (Nat.le_of_ble_eq_true rfl) (zha (by omega)) (zc_Term hs) rfl rfl (show XR _ _ _ _ (none, zhp (zput A s k) B) from zr_71 hs hA ht) ?_
          refine xg_step rfl rfl (fun k => rfl) ?_
          refine xg_step rfl rfl (fun k => rfl) ?_
          refine zg_geti (x := s) rfl rfl (zha (by omega)) (zc_Server hs) rfl (((congrFun (zput_row (by omega) (by omega)) _)).trans hid) ?_
          refine zg_eq rfl rfl (fun x y k => rfl) (by first | assumption | exact hA _ _ | exact hB _ _ | exact zrg_max (by assumption) (hA _ _) | (constructor <;> omega)) (by first | assumption | exact hA _ _ | exact hB _ _ | exact zrg_max (by assumption) (hA _ _) | (constructor <;> omega)) (fun hc => ?_) (fun hc => ?_)
          ·
            refine zg_ret rfl rfl ?_
            unfold ztake; first | rw [if_pos (by omega)] | rw [if_neg (by omega), if_pos (by omega), if_pos (by omega)] | rw [if_neg (by omega), if_pos (by omega), if_neg (by omega)] | rw [if_neg (by omega), if_neg (by omega), if_pos (by omega)] | rw [if_neg (by omega), if_neg (by omega), if_neg (by omega), if_pos (by omega), if_pos (by omega)] | rw [if_neg (by omega), if_neg (by omega), if_neg (by omega), if_pos (by omega), if_neg (by omega)] | rw [if_neg (by omega), if_neg (by omega), if_neg (by omega), if_neg (by omega), if_pos (by omega), if_pos (by omega)] | rw [if_neg (by omega), if_neg (by omega), if_neg (by omega), if_neg (by omega), if_pos (by omega), if_neg (by omega)] | rw [if_neg (by omega), if_neg (by omega), if_neg (by omega), if_neg (by omega), if_neg (by omega)]
          ·
            refine xg_step rfl rfl (fun k => rfl) ?_
            refine xg_get rfl rfl (zha (by omega)) (zc_Server hs) rfl rfl ?_
            refine xg_step rfl rfl (fun k => rfl) ?_
            refine zg_geti (x := s) rfl rfl (zha (by omega)) (zc_Server hs) rfl (((congrFun (zput_row (by omega) (by omega)) _)).trans hid) ?_
            refine xg_step rfl rfl (fun k => rfl) ?_
            refine xg_step rfl rfl (fun k => rfl) ?_
            refine zg_geti (x := A (56 + 17 * s) 7) rfl rfl (zha (by omega)) (zc_Server hs) rfl ((congrFun (zput_row (by omega) (by omega)) _)) ?_
            refine xg_step rfl rfl (fun k => rfl) ?_
            refine xg_step rfl rfl (fun k => rfl) ?_
            refine zg_cvi rfl rfl rfl (Nat.le_of_ble_eq_true rfl) (zha (by decide)) zc_Book rfl rfl (zr_11 hGp (by omega) (by omega) (by omega) (by omega) (by omega)) ?_
            refine xg_step rfl rfl (fun k => rfl) ?_
            refine xg_step rfl rfl (fun k => rfl) ?_
            refine zg_ret rfl rfl ?_
            unfold ztake; first | rw [if_pos (by omega)] | rw [if_neg (by omega), if_pos (by omega), if_pos (by omega)] | rw [if_neg (by omega), if_pos (by omega), if_neg (by omega)] | rw [if_neg (by omega), if_neg (by omega), if_pos (by omega)] | rw [if_neg (by omega), if_neg (by omega), if_neg (by omega), if_pos (by omega), if_pos (by omega)] | rw [if_neg (by omega), if_neg (by omega), if_neg (by omega), if_pos (by omega), if_neg (by omega)] | rw [if_neg (by omega), if_neg (by omega), if_neg (by omega), if_neg (by omega), if_pos (by omega), if_pos (by omega)] | rw [if_neg (by omega), if_neg (by omega), if_neg (by omega), if_neg (by omega), if_pos (by omega), if_neg (by omega)] | rw [if_neg (by omega), if_neg (by omega), if_neg (by omega), if_neg (by omega), if_neg (by omega)]
        refine zg_swi 1 rfl rfl (fun k => rfl) (fun hc => ?_) (fun hc => ?_)
        ·
          refine xg_step rfl rfl (fun k => rfl) ?_
          refine xg_get rfl rfl (zha (by omega)) (zc_Server hs) rfl rfl ?_
          refine xg_step rfl rfl (fun k => rfl) ?_
          refine xg_get rfl rfl (zha (by omega)) (zc_Server hs) rfl rfl ?_
          refine xg_step rfl rfl (fun k => rfl) ?_
          refine xg_step rfl rfl (fun k => rfl) ?_
          refine xg_step rfl rfl (fun k => rfl) ?_
          refine zg_cvi rfl rfl rfl (Nat.le_of_ble_eq_true rfl) (zha (by decide)) zc_Book rfl rfl (zreq (x := A (45 + 2 * p) (k * 5 + 2)) (zr_7 hA hp (by first | assumption | exact hA _ _ | exact hB _ _ | exact zrg_max (by assumption) (hA _ _) | (constructor <;> omega)) (by first | assumption | exact hA _ _ | exact hB _ _ | exact zrg_max (by assumption) (hA _ _) | (constructor <;> omega)) (hcN _ (by omega))) (by rw [if_pos (by omega)])) ?_
          refine zg_cvv rfl rfl rfl (Nat.le_of_ble_eq_true rfl) (zha (by omega)) (zc_Term hs) rfl rfl (show XR _ _ _ _ (none, zhp (zvote A s (A (45 + 2 * p) (k * 5 + 2))) B) from zr_72 hs hA (by first | assumption | exact hA _ _ | exact hB _ _ | exact zrg_max (by assumption) (hA _ _) | (constructor <;> omega))) ?_
          refine xg_step rfl rfl (fun k => rfl) ?_
          refine zg_ret rfl rfl ?_
          unfold ztake; first | rw [if_pos (by omega)] | rw [if_neg (by omega), if_pos (by omega), if_pos (by omega)] | rw [if_neg (by omega), if_pos (by omega), if_neg (by omega)] | rw [if_neg (by omega), if_neg (by omega), if_pos (by omega)] | rw [if_neg (by omega), if_neg (by omega), if_neg (by omega), if_pos (by omega), if_pos (by omega)] | rw [if_neg (by omega), if_neg (by omega), if_neg (by omega), if_pos (by omega), if_neg (by omega)] | rw [if_neg (by omega), if_neg (by omega), if_neg (by omega), if_neg (by omega), if_pos (by omega), if_pos (by omega)] | rw [if_neg (by omega), if_neg (by omega), if_neg (by omega), if_neg (by omega), if_pos (by omega), if_neg (by omega)] | rw [if_neg (by omega), if_neg (by omega), if_neg (by omega), if_neg (by omega), if_neg (by omega)]
        refine zg_swi 2 rfl rfl (fun k => rfl) (fun hc => ?_) (fun hc => ?_)
        ·
          refine xg_step rfl rfl (fun k => rfl) ?_
          refine xg_get rfl rfl (zha (by omega)) (zc_Server hs) rfl rfl ?_
          refine xg_step rfl rfl (fun k => rfl) ?_
          refine xg_step rfl rfl (fun k => rfl) ?_
          refine xg_step rfl rfl (fun k => rfl) ?_
          refine zg_csi rfl rfl (by decide) rfl rfl (Nat.le_of_ble_eq_true rfl) rfl (zr_100 hA) ?_
          refine zg_cvv rfl rfl rfl (Nat.le_of_ble_eq_true rfl) (zha (by omega)) (zc_Changes hs) rfl rfl (zr_15 hs hA (by omega) (by omega) (hch1 _ (by omega))) ?_
          refine xg_step rfl rfl (fun k => rfl) ?_
          refine xg_step rfl rfl (fun k => rfl) ?_
          refine zg_geti (x := A (56 + 17 * s) 7) rfl rfl (zha (by omega)) (zc_Server hs) rfl ((congrFun (znote_row (by omega) (by omega)) _)) ?_
          refine zg_eq rfl rfl (fun x y k => rfl) (by first | assumption | exact hA _ _ | exact hB _ _ | exact zrg_max (by assumption) (hA _ _) | (constructor <;> omega)) (by first | assumption | exact hA _ _ | exact hB _ _ | exact zrg_max (by assumption) (hA _ _) | (constructor <;> omega)) (fun hc => ?_) (fun hc => ?_)
          ·
            refine xg_step rfl rfl (fun k => rfl) ?_
            refine zg_geti (x := A (56 + 17 * s) 8) rfl rfl (zha (by omega)) (zc_Server hs) rfl ((congrFun (znote_row (by omega) (by omega)) _)) ?_
            refine zg_eq0 rfl rfl (fun x k => rfl) (by first | assumption | exact hA _ _ | exact hB _ _ | exact zrg_max (by assumption) (hA _ _) | (constructor <;> omega)) (fun hc => ?_) (fun hc => ?_)
            ·
              refine xg_step rfl rfl (fun k => rfl) ?_
              refine zg_geti (x := A (56 + 17 * s) 7) rfl rfl (zha (by omega)) (zc_Server hs) rfl ((congrFun (znote_row (by omega) (by omega)) _)) ?_
              refine zg_csi rfl rfl (by decide) rfl rfl (Nat.le_of_ble_eq_true rfl) rfl (zr_99 hGn.1 (by omega)) ?_
              refine xg_step rfl rfl (fun k => rfl) ?_
              refine zg_geti (x := s) rfl rfl (zha (by omega)) (zc_Server hs) rfl (((congrFun (znote_row (by omega) (by omega)) _)).trans hid) ?_
              refine zg_eq rfl rfl (fun x y k => rfl) (by first | assumption | exact hA _ _ | exact hB _ _ | exact zrg_max (by assumption) (hA _ _) | (constructor <;> omega)) (by first | assumption | exact hA _ _ | exact hB _ _ | exact zrg_max (by assumption) (hA _ _) | (constructor <;> omega)) (fun hc => ?_) (fun hc => ?_)
              ·
                refine xg_step rfl rfl (fun k => rfl) ?_
                refine xg_get rfl rfl (zha (by omega)) (zc_Server hs) rfl rfl ?_
                refine xg_step rfl rfl (fun k => rfl) ?_
                refine zg_geti (x := A (56 + 17 * s) 7) rfl rfl (zha (by omega)) (zc_Server hs) rfl ((congrFun (znote_row (by omega) (by omega)) _)) ?_
                refine zg_cvb rfl rfl rfl (Nat.le_of_ble_eq_true rfl) (zha (by omega)) (zc_Changes hs) rfl rfl (zr_16 hs hGn.1 (by omega)) (fun hc => ?_) (fun hc => ?_)
                ·
                  refine xg_step rfl rfl (fun k => rfl) ?_
                  refine xg_step rfl rfl (fun k => rfl) ?_
                  refine xg_get rfl rfl (zha (by omega)) (zc_Server hs) rfl rfl ?_
                  refine xg_step rfl rfl (fun k => rfl) ?_
                  refine zg_geti (x := s) rfl rfl (zha (by omega)) (zc_Server hs) rfl (((congrFun (znote_row (by omega) (by omega)) _)).trans hid) ?_
                  refine xg_step rfl rfl (fun k => rfl) ?_
                  refine xg_step rfl rfl (fun k => rfl) ?_
                  refine zg_geti (x := A (56 + 17 * s) 7) rfl rfl (zha (by omega)) (zc_Server hs) rfl ((congrFun (znote_row (by omega) (by omega)) _)) ?_
                  refine xg_step rfl rfl (fun k => rfl) ?_
                  refine xg_get rfl rfl (zha (by omega)) (zc_Server hs) rfl rfl ?_
                  refine xg_get rfl rfl (zha (by omega)) (zc_Changes hs) rfl rfl ?_
                  refine xg_step rfl rfl (fun k => rfl) ?_
                  refine zg_geti (x := A (56 + 17 * s) 7) rfl rfl (zha (by omega)) (zc_Server hs) rfl ((congrFun (znote_row (by omega) (by omega)) _)) ?_
                  refine zg_ald (.inl ⟨rfl, rfl⟩) (zha (by omega)) (zc_first hs) (by decide) ⟨by omega, by omega⟩ rfl ?_
                  refine xg_step rfl rfl (fun k => rfl) ?_
                  refine xg_get rfl rfl (zha (by omega)) (zc_Server hs) rfl rfl ?_
                  refine xg_get rfl rfl (zha (by omega)) (zc_Changes hs) rfl rfl ?_
                  refine xg_step rfl rfl (fun k => rfl) ?_
                  refine zg_geti (x := A (56 + 17 * s) 7) rfl rfl (zha (by omega)) (zc_Server hs) rfl ((congrFun (znote_row (by omega) (by omega)) _)) ?_
                  refine zg_ald (.inl ⟨rfl, rfl⟩) (zha (by omega)) (zc_second hs) (by decide) ⟨by omega, by omega⟩ rfl ?_
                  refine zg_cvi rfl rfl rfl (Nat.le_of_ble_eq_true rfl) (zha (by decide)) zc_Book rfl rfl (zr_11 hGn (by omega) (by omega) (by omega) (by omega) (by omega)) ?_
                  refine xg_step rfl rfl (fun k => rfl) ?_
                  refine xg_step rfl rfl (fun k => rfl) ?_
                  refine zg_ret rfl rfl ?_
                  unfold ztake; first | rw [if_pos (by omega)] | rw [if_neg (by omega), if_pos (by omega), if_pos (by omega)] | rw [if_neg (by omega), if_pos (by omega), if_neg (by omega)] | rw [if_neg (by omega), if_neg (by omega), if_pos (by omega)] | rw [if_neg (by omega), if_neg (by omega), if_neg (by omega), if_pos (by omega), if_pos (by omega)] | rw [if_neg (by omega), if_neg (by omega), if_neg (by omega), if_pos (by omega), if_neg (by omega)] | rw [if_neg (by omega), if_neg (by omega), if_neg (by omega), if_neg (by omega), if_pos (by omega), if_pos (by omega)] | rw [if_neg (by omega), if_neg (by omega), if_neg (by omega), if_neg (by omega), if_pos (by omega), if_neg (by omega)] | rw [if_neg (by omega), if_neg (by omega), if_neg (by omega), if_neg (by omega), if_neg (by omega)]
                ·
                  refine xg_step rfl rfl (fun k => rfl) ?_
                  refine zg_ret rfl rfl ?_
                  unfold ztake; first | rw [if_pos (by omega)] | rw [if_neg (by omega), if_pos (by omega), if_pos (by omega)] | rw [if_neg (by omega), if_pos (by omega), if_neg (by omega)] | rw [if_neg (by omega), if_neg (by omega), if_pos (by omega)] | rw [if_neg (by omega), if_neg (by omega), if_neg (by omega), if_pos (by omega), if_pos (by omega)] | rw [if_neg (by omega), if_neg (by omega), if_neg (by omega), if_pos (by omega), if_neg (by omega)] | rw [if_neg (by omega), if_neg (by omega), if_neg (by omega), if_neg (by omega), if_pos (by omega), if_pos (by omega)] | rw [if_neg (by omega), if_neg (by omega), if_neg (by omega), if_neg (by omega), if_pos (by omega), if_neg (by omega)] | rw [if_neg (by omega), if_neg (by omega), if_neg (by omega), if_neg (by omega), if_neg (by omega)]
              ·
                refine zg_ret rfl rfl ?_
                unfold ztake; first | rw [if_pos (by omega)] | rw [if_neg (by omega), if_pos (by omega), if_pos (by omega)] | rw [if_neg (by omega), if_pos (by omega), if_neg (by omega)] | rw [if_neg (by omega), if_neg (by omega), if_pos (by omega)] | rw [if_neg (by omega), if_neg (by omega), if_neg (by omega), if_pos (by omega), if_pos (by omega)] | rw [if_neg (by omega), if_neg (by omega), if_neg (by omega), if_pos (by omega), if_neg (by omega)] | rw [if_neg (by omega), if_neg (by omega), if_neg (by omega), if_neg (by omega), if_pos (by omega), if_pos (by omega)] | rw [if_neg (by omega), if_neg (by omega), if_neg (by omega), if_neg (by omega), if_pos (by omega), if_neg (by omega)] | rw [if_neg (by omega), if_neg (by omega), if_neg (by omega), if_neg (by omega), if_neg (by omega)]
            ·
              refine zg_ret rfl rfl ?_
              unfold ztake; first | rw [if_pos (by omega)] | rw [if_neg (by omega), if_pos (by omega), if_pos (by omega)] | rw [if_neg (by omega), if_pos (by omega), if_neg (by omega)] | rw [if_neg (by omega), if_neg (by omega), if_pos (by omega)] | rw [if_neg (by omega), if_neg (by omega), if_neg (by omega), if_pos (by omega), if_pos (by omega)] | rw [if_neg (by omega), if_neg (by omega), if_neg (by omega), if_pos (by omega), if_neg (by omega)] | rw [if_neg (by omega), if_neg (by omega), if_neg (by omega), if_neg (by omega), if_pos (by omega), if_pos (by omega)] | rw [if_neg (by omega), if_neg (by omega), if_neg (by omega), if_neg (by omega), if_pos (by omega), if_neg (by omega)] | rw [if_neg (by omega), if_neg (by omega), if_neg (by omega), if_neg (by omega), if_neg (by omega)]
          ·
            refine zg_ret rfl rfl ?_
            unfold ztake; first | rw [if_pos (by omega)] | rw [if_neg (by omega), if_pos (by omega), if_pos (by omega)] | rw [if_neg (by omega), if_pos (by omega), if_neg (by omega)] | rw [if_neg (by omega), if_neg (by omega), if_pos (by omega)] | rw [if_neg (by omega), if_neg (by omega), if_neg (by omega), if_pos (by omega), if_pos (by omega)] | rw [if_neg (by omega), if_neg (by omega), if_neg (by omega), if_pos (by omega), if_neg (by omega)] | rw [if_neg (by omega), if_neg (by omega), if_neg (by omega), if_neg (by omega), if_pos (by omega), if_pos (by omega)] | rw [if_neg (by omega), if_neg (by omega), if_neg (by omega), if_neg (by omega), if_pos (by omega), if_neg (by omega)] | rw [if_neg (by omega), if_neg (by omega), if_neg (by omega), if_neg (by omega), if_neg (by omega)]
        refine zg_swd rfl (by first | assumption | exact hA _ _ | exact hB _ _ | exact zrg_max (by assumption) (hA _ _) | (constructor <;> omega)) (by omega) (fun k => rfl) ?_
        refine xg_step rfl rfl (fun k => rfl) ?_
        refine xg_step rfl rfl (fun k => rfl) ?_
        refine xg_get rfl rfl (zha (by omega)) (zc_Server hs) rfl rfl ?_
        refine zg_gt rfl rfl (fun x y k => rfl) (by first | assumption | exact hA _ _ | exact hB _ _ | exact zrg_max (by assumption) (hA _ _) | (constructor <;> omega)) (by first | assumption | exact hA _ _ | exact hB _ _ | exact zrg_max (by assumption) (hA _ _) | (constructor <;> omega)) (fun hc => ?_) (fun hc => ?_)
        ·
          refine xg_step rfl rfl (fun k => rfl) ?_
          refine xg_step rfl rfl (fun k => rfl) ?_
          refine xg_step rfl rfl (fun k => rfl) ?_
          refine zg_cvv rfl rfl rfl (Nat.le_of_ble_eq_true rfl) (zha (by omega)) (zc_Server hs) rfl rfl (zr_59 hs hA (by first | assumption | exact hA _ _ | exact hB _ _ | exact zrg_max (by assumption) (hA _ _) | (constructor <;> omega)) (by omega)) ?_
          refine xg_step rfl rfl (fun k => rfl) ?_
          refine xg_step rfl rfl (fun k => rfl) ?_
          refine zg_geti (x := s) rfl rfl (zha (by omega)) (zc_Server hs) rfl ((zturn_0).trans hid) ?_
          refine zg_eq rfl rfl (fun x y k => rfl) (by first | assumption | exact hA _ _ | exact hB _ _ | exact zrg_max (by assumption) (hA _ _) | (constructor <;> omega)) (by first | assumption | exact hA _ _ | exact hB _ _ | exact zrg_max (by assumption) (hA _ _) | (constructor <;> omega)) (fun hc => ?_) (fun hc => ?_)
          ·
            refine zg_ret rfl rfl ?_
            unfold ztake; first | rw [if_pos (by omega)] | rw [if_neg (by omega), if_pos (by omega), if_pos (by omega)] | rw [if_neg (by omega), if_pos (by omega), if_neg (by omega)] | rw [if_neg (by omega), if_neg (by omega), if_pos (by omega)] | rw [if_neg (by omega), if_neg (by omega), if_neg (by omega), if_pos (by omega), if_pos (by omega)] | rw [if_neg (by omega), if_neg (by omega), if_neg (by omega), if_pos (by omega), if_neg (by omega)] | rw [if_neg (by omega), if_neg (by omega), if_neg (by omega), if_neg (by omega), if_pos (by omega), if_pos (by omega)] | rw [if_neg (by omega), if_neg (by omega), if_neg (by omega), if_neg (by omega), if_pos (by omega), if_neg (by omega)] | rw [if_neg (by omega), if_neg (by omega), if_neg (by omega), if_neg (by omega), if_neg (by omega)]
          ·
            refine xg_step rfl rfl (fun k => rfl) ?_
            refine xg_get rfl rfl (zha (by omega)) (zc_Server hs) rfl rfl ?_
            refine xg_step rfl rfl (fun k => rfl) ?_
            refine zg_geti (x := s) rfl rfl (zha (by omega)) (zc_Server hs) rfl ((zturn_0).trans hid) ?_
            refine xg_step rfl rfl (fun k => rfl) ?_
            refine xg_step rfl rfl (fun k => rfl) ?_
            refine zg_geti (x := A (45 + 2 * p) (k * 5 + 1)) rfl rfl (zha (by omega)) (zc_Server hs) rfl (zturn_7) ?_
            refine xg_step rfl rfl (fun k => rfl) ?_
            refine xg_step rfl rfl (fun k => rfl) ?_
            refine zg_cvi rfl rfl rfl (Nat.le_of_ble_eq_true rfl) (zha (by decide)) zc_Book rfl rfl (zr_11 hGt (by omega) (by omega) (by omega) (by omega) (by omega)) ?_
            refine xg_step rfl rfl (fun k => rfl) ?_
            refine zg_ret rfl rfl ?_
            unfold ztake; first | rw [if_pos (by omega)] | rw [if_neg (by omega), if_pos (by omega), if_pos (by omega)] | rw [if_neg (by omega), if_pos (by omega), if_neg (by omega)] | rw [if_neg (by omega), if_neg (by omega), if_pos (by omega)] | rw [if_neg (by omega), if_neg (by omega), if_neg (by omega), if_pos (by omega), if_pos (by omega)] | rw [if_neg (by omega), if_neg (by omega), if_neg (by omega), if_pos (by omega), if_neg (by omega)] | rw [if_neg (by omega), if_neg (by omega), if_neg (by omega), if_neg (by omega), if_pos (by omega), if_pos (by omega)] | rw [if_neg (by omega), if_neg (by omega), if_neg (by omega), if_neg (by omega), if_pos (by omega), if_neg (by omega)] | rw [if_neg (by omega), if_neg (by omega), if_neg (by omega), if_neg (by omega), if_neg (by omega)]
        ·
          refine xg_step rfl rfl (fun k => rfl) ?_
          refine xg_get rfl rfl (zha (by omega)) (zc_Server hs) rfl rfl ?_
          refine zg_eq0 rfl rfl (fun x k => rfl) (by first | assumption | exact hA _ _ | exact hB _ _ | exact zrg_max (by assumption) (hA _ _) | (constructor <;> omega)) (fun hc => ?_) (fun hc => ?_)
          ·
            refine xg_step rfl rfl (fun k => rfl) ?_
            refine xg_step rfl rfl (fun k => rfl) ?_
            refine xg_step rfl rfl (fun k => rfl) ?_
            refine zg_cvv rfl rfl rfl (Nat.le_of_ble_eq_true rfl) (zha (by omega)) (zc_Server hs) rfl rfl (zr_59 hs hA (by first | assumption | exact hA _ _ | exact hB _ _ | exact zrg_max (by assumption) (hA _ _) | (constructor <;> omega)) (by omega)) ?_
            refine xg_step rfl rfl (fun k => rfl) ?_
            refine xg_step rfl rfl (fun k => rfl) ?_
            refine zg_geti (x := s) rfl rfl (zha (by omega)) (zc_Server hs) rfl ((zturn_0).trans hid) ?_
            refine zg_eq rfl rfl (fun x y k => rfl) (by first | assumption | exact hA _ _ | exact hB _ _ | exact zrg_max (by assumption) (hA _ _) | (constructor <;> omega)) (by first | assumption | exact hA _ _ | exact hB _ _ | exact zrg_max (by assumption) (hA _ _) | (constructor <;> omega)) (fun hc => ?_) (fun hc => ?_)
            ·
              refine zg_ret rfl rfl ?_
              unfold ztake; first | rw [if_pos (by omega)] | rw [if_neg (by omega), if_pos (by omega), if_pos (by omega)] | rw [if_neg (by omega), if_pos (by omega), if_neg (by omega)] | rw [if_neg (by omega), if_neg (by omega), if_pos (by omega)] | rw [if_neg (by omega), if_neg (by omega), if_neg (by omega), if_pos (by omega), if_pos (by omega)] | rw [if_neg (by omega), if_neg (by omega), if_neg (by omega), if_pos (by omega), if_neg (by omega)] | rw [if_neg (by omega), if_neg (by omega), if_neg (by omega), if_neg (by omega), if_pos (by omega), if_pos (by omega)] | rw [if_neg (by omega), if_neg (by omega), if_neg (by omega), if_neg (by omega), if_pos (by omega), if_neg (by omega)] | rw [if_neg (by omega), if_neg (by omega), if_neg (by omega), if_neg (by omega), if_neg (by omega)]
            ·
              refine xg_step rfl rfl (fun k => rfl) ?_
              refine xg_get rfl rfl (zha (by omega)) (zc_Server hs) rfl rfl ?_
              refine xg_step rfl rfl (fun k => rfl) ?_
              refine zg_geti (x := s) rfl rfl (zha (by omega)) (zc_Server hs) rfl ((zturn_0).trans hid) ?_
              refine xg_step rfl rfl (fun k => rfl) ?_
              refine xg_step rfl rfl (fun k => rfl) ?_
              refine zg_geti (x := A (45 + 2 * p) (k * 5 + 1)) rfl rfl (zha (by omega)) (zc_Server hs) rfl (zturn_7) ?_
              refine xg_step rfl rfl (fun k => rfl) ?_
              refine xg_step rfl rfl (fun k => rfl) ?_
              refine zg_cvi rfl rfl rfl (Nat.le_of_ble_eq_true rfl) (zha (by decide)) zc_Book rfl rfl (zr_11 hGt (by omega) (by omega) (by omega) (by omega) (by omega)) ?_
              refine xg_step rfl rfl (fun k => rfl) ?_
              refine zg_ret rfl rfl ?_
              unfold ztake; first | rw [if_pos (by omega)] | rw [if_neg (by omega), if_pos (by omega), if_pos (by omega)] | rw [if_neg (by omega), if_pos (by omega), if_neg (by omega)] | rw [if_neg (by omega), if_neg (by omega), if_pos (by omega)] | rw [if_neg (by omega), if_neg (by omega), if_neg (by omega), if_pos (by omega), if_pos (by omega)] | rw [if_neg (by omega), if_neg (by omega), if_neg (by omega), if_pos (by omega), if_neg (by omega)] | rw [if_neg (by omega), if_neg (by omega), if_neg (by omega), if_neg (by omega), if_pos (by omega), if_pos (by omega)] | rw [if_neg (by omega), if_neg (by omega), if_neg (by omega), if_neg (by omega), if_pos (by omega), if_neg (by omega)] | rw [if_neg (by omega), if_neg (by omega), if_neg (by omega), if_neg (by omega), if_neg (by omega)]
          ·
            refine zg_ret rfl rfl ?_
            unfold ztake; first | rw [if_pos (by omega)] | rw [if_neg (by omega), if_pos (by omega), if_pos (by omega)] | rw [if_neg (by omega), if_pos (by omega), if_neg (by omega)] | rw [if_neg (by omega), if_neg (by omega), if_pos (by omega)] | rw [if_neg (by omega), if_neg (by omega), if_neg (by omega), if_pos (by omega), if_pos (by omega)] | rw [if_neg (by omega), if_neg (by omega), if_neg (by omega), if_pos (by omega), if_neg (by omega)] | rw [if_neg (by omega), if_neg (by omega), if_neg (by omega), if_neg (by omega), if_pos (by omega), if_pos (by omega)] | rw [if_neg (by omega), if_neg (by omega), if_neg (by omega), if_neg (by omega), if_pos (by omega), if_neg (by omega)] | rw [if_neg (by omega), if_neg (by omega), if_neg (by omega), if_neg (by omega), if_neg (by omega)]
      ·
        refine zg_ret rfl rfl ?_
        unfold ztake; first | rw [if_pos (by omega)] | rw [if_neg (by omega), if_pos (by omega), if_pos (by omega)] | rw [if_neg (by omega), if_pos (by omega), if_neg (by omega)] | rw [if_neg (by omega), if_neg (by omega), if_pos (by omega)] | rw [if_neg (by omega), if_neg (by omega), if_neg (by omega), if_pos (by omega), if_pos (by omega)] | rw [if_neg (by omega), if_neg (by omega), if_neg (by omega), if_pos (by omega), if_neg (by omega)] | rw [if_neg (by omega), if_neg (by omega), if_neg (by omega), if_neg (by omega), if_pos (by omega), if_pos (by omega)] | rw [if_neg (by omega), if_neg (by omega), if_neg (by omega), if_neg (by omega), if_pos (by omega), if_neg (by omega)] | rw [if_neg (by omega), if_neg (by omega), if_neg (by omega), if_neg (by omega), if_neg (by omega)]
  ·
    refine zg_ret rfl rfl ?_
    unfold ztake; first | rw [if_pos (by omega)] | rw [if_neg (by omega), if_pos (by omega), if_pos (by omega)] | rw [if_neg (by omega), if_pos (by omega), if_neg (by omega)] | rw [if_neg (by omega), if_neg (by omega), if_pos (by omega)] | rw [if_neg (by omega), if_neg (by omega), if_neg (by omega), if_pos (by omega), if_pos (by omega)] | rw [if_neg (by omega), if_neg (by omega), if_neg (by omega), if_pos (by omega), if_neg (by omega)] | rw [if_neg (by omega), if_neg (by omega), if_neg (by omega), if_neg (by omega), if_pos (by omega), if_pos (by omega)] | rw [if_neg (by omega), if_neg (by omega), if_neg (by omega), if_neg (by omega), if_pos (by omega), if_neg (by omega)] | rw [if_neg (by omega), if_neg (by omega), if_neg (by omega), if_neg (by omega), if_neg (by omega)]
