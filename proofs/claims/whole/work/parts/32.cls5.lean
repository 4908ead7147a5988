/-! entering a message -/
theorem zadd_row {A : ZM} {s kd v a b o c : Int} (h1 : c ≠ 44 + 2 * s) (h2 : c ≠ 45 + 2 * s) : zadd A s kd v a b o c = A c := by
  unfold zadd
  try dsimp only
  split
  · rw [zup_row h1, zup_row h2, zup_row h2, zup_row h2, zup_row h2, zup_row h2, zup_row h1]
  · rw [zup_row h2, zup_row h2, zup_row h2, zup_row h2, zup_row h2, zup_row h1]
theorem zadd_cnt {A : ZM} {s kd v a b o c : Int} (hs : 0 ≤ s ∧ s < 3) (hc : 0 ≤ c ∧ c < 3) : zadd A s kd v a b o (44 + 2 * c) 1 = if c = s then A (44 + 2 * s) 1 + 1 else A (44 + 2 * c) 1 := by
  unfold zadd
  try dsimp only
  split
  · rw [zup_ne (by omega), zup_ne (by omega), zup_ne (by omega), zup_ne (by omega), zup_ne (by omega), zup_ne (by omega)]
    unfold zup
    (repeat' split) <;> first | rfl | omega
  · rw [zup_ne (by omega), zup_ne (by omega), zup_ne (by omega), zup_ne (by omega), zup_ne (by omega)]
    unfold zup
    (repeat' split) <;> first | rfl | omega
theorem zadd_rg {A : ZM} {s kd v a b o : Int} (hA : zRg A) (hkd : zrg kd) (hv : zrg v) (ha : zrg a) (hb : zrg b) (hc : A (44 + 2 * s) 1 < 1000) : zRg (zadd A s kd v a b o) := by
  have h0 : zrg (A (44 + 2 * s) 1 + 1) := ⟨by have := (hA (44 + 2 * s) 1).1; omega, by omega⟩
  have ho : zrg (if o = 0 then 0 else 1) := by split <;> exact ⟨by decide, by decide⟩
  have h1 := zRg_up (a := 45 + 2 * s) (i := (A (44 + 2 * s) 1 + 1) * 5 + 4) (zRg_up (a := 45 + 2 * s) (i := (A (44 + 2 * s) 1 + 1) * 5 + 3) (zRg_up (a := 45 + 2 * s) (i := (A (44 + 2 * s) 1 + 1) * 5 + 2) (zRg_up (a := 45 + 2 * s) (i := (A (44 + 2 * s) 1 + 1) * 5 + 1) (zRg_up (a := 45 + 2 * s) (i := (A (44 + 2 * s) 1 + 1) * 5 + 0) (zRg_up (a := 44 + 2 * s) (i := 1) hA h0) hkd) hv) ha) hb) ho
  unfold zadd
  try dsimp only
  split
  · exact zRg_up h1 (zrg_max (hA _ _) hv)
  · exact h1
/-- what the class's methods want of the memory -/
def zG (A : ZM) : Prop := zRg A ∧ (∀ s, 0 ≤ s ∧ s < 3 → 0 ≤ A (44 + 2 * s) 1 ∧ A (44 + 2 * s) 1 ≤ 100) ∧ (0 ≤ A (-2) 0 ∧ A (-2) 0 ≤ 900) ∧ (0 ≤ A (-2) 1 ∧ A (-2) 1 ≤ 90000) ∧ (∀ w, 0 ≤ w ∧ w < 31 → (12 ≤ A 11 w ∧ A 11 w ≤ 42 ∨ 144 ≤ A 11 w ∧ A 11 w < 144 + A (-2) 0) ∧ 0 ≤ A (-1) (A 11 w) ∧ A (-1) (A 11 w) ≤ 1000)
theorem zG_up {A : ZM} {a i x : Int} (h : zG A) (hx : zrg x) (h1 : a ≠ -2) (h2 : a ≠ -1) (h3 : a ≠ 11) (h4 : a ≠ 44 ∧ a ≠ 46 ∧ a ≠ 48) : zG (zup A a i x) := by
  obtain ⟨q1, q2, q3, q4, q5⟩ := h
  refine ⟨zRg_up q1 hx, fun s hs => ?_, ?_, ?_, fun w hw => ?_⟩
  · rw [zup_ne (by omega)]; exact q2 s hs
  · rw [zup_ne (by omega)]; exact q3
  · rw [zup_ne (by omega)]; exact q4
  · rw [zup_row (b := 11) (by omega), zup_row (b := -1) (by omega), zup_row (b := -2) (by omega)]; exact q5 w hw
/-- a message is entered, and what hangs on it -/
def zent (A : ZM) (s kd v a b : Int) : ZM :=
  if zVD A s kd v a b then zadd A s kd v a b 1
  else if kd = 3 ∧ A 10 v = 0 then zmr (zup (zadd A s kd v a b 0) 10 v (A (44 + 2 * s) 1 + 1)) v a b
  else zadd A s kd v a b 0
def zentF (A : ZM) (s kd v a b : Int) : ZM := if A (44 + 2 * s) 1 < 100 then zent A s kd v a b else A
set_option maxRecDepth 10000 in
theorem zr_11 {d : Nat} {A B : ZM} (hG : zG A) {s kd v a b : Int} (hs : 0 ≤ s ∧ s < 3) (hkd : 0 ≤ kd ∧ kd < 4) (hv : 0 ≤ v ∧ v < 31) (ha : 0 ≤ a ∧ a < 1000) (hb : 0 ≤ b ∧ b < 1000) : XR (d + 5) 11 [.ref 8, zci (s), zci (kd), zci (v), zci (a), zci (b)] (zhp A B) (some (zci (if A (44 + 2 * s) 1 < 100 then A (44 + 2 * s) 1 + 1 else -1)), zhp (zentF A s kd v a b) B) := by
  obtain ⟨hA, hcN, g3, g4, g5⟩ := hG
  have hcn := hcN s hs
  have hD0 : A (44 + 2 * s) 1 < 100 → zRg (zadd A s kd v a b 0) := fun q => zadd_rg hA ⟨by omega, by omega⟩ ⟨by omega, by omega⟩ ⟨by omega, by omega⟩ ⟨by omega, by omega⟩ (by omega)
  have hM : A (44 + 2 * s) 1 < 100 → zRg (zup (zadd A s kd v a b 0) 10 v (A (44 + 2 * s) 1 + 1)) := fun q => zRg_up (hD0 q) ⟨by omega, by omega⟩
  have hcM : A (44 + 2 * s) 1 < 100 → ∀ c, 0 ≤ c ∧ c < 3 → 0 ≤ zup (zadd A s kd v a b 0) 10 v (A (44 + 2 * s) 1 + 1) (44 + 2 * c) 1 ∧ zup (zadd A s kd v a b 0) 10 v (A (44 + 2 * s) 1 + 1) (44 + 2 * c) 1 ≤ 100 := fun q c hc => by
    have := hcN c hc
    rw [zup_ne (by omega), zadd_cnt hs hc]
    split <;> omega
  have hM2 : zup (zadd A s kd v a b 0) 10 v (A (44 + 2 * s) 1 + 1) (-2) = A (-2) := (zup_row (by omega)).trans (zadd_row (by omega) (by omega))
  have hM1 : zup (zadd A s kd v a b 0) 10 v (A (44 + 2 * s) 1 + 1) (-1) = A (-1) := (zup_row (by omega)).trans (zadd_row (by omega) (by omega))
  have hM11 : zup (zadd A s kd v a b 0) 10 v (A (44 + 2 * s) 1 + 1) 11 = A 11 := (zup_row (by omega)).trans (zadd_row (by omega) (by omega))
  refine XR.of (Nat.le_of_ble_eq_true rfl) rfl ?_
  refine xg_step rfl rfl (fun k => rfl) ?_
  refine xg_get rfl rfl (zha (by decide)) zc_Book rfl rfl ?_
  refine xg_step rfl rfl (fun k => rfl) ?_
  refine zg_aald rfl (zha (by decide)) zc_counters (by decide) (by decide) ⟨by omega, by omega⟩ (if_pos (by omega)) ?_
  refine xg_step rfl rfl (fun k => rfl) ?_
  refine xg_step rfl rfl (fun k => rfl) ?_
  refine zg_cvb rfl rfl rfl (Nat.le_of_ble_eq_true rfl) (zha (by omega)) (zc_Counter hs) rfl rfl (zr_18 hs hA) (fun hc => ?_) (fun hc => ?_)
  ·
    refine xg_step rfl rfl (fun k => rfl) ?_
    refine xg_step rfl rfl (fun k => rfl) ?_
    refine zg_iret rfl rfl zfitI ?_
    first | (rw [if_neg (by omega)]; unfold zentF; rw [if_neg (by omega)]) | (unfold zentF zent; rw [if_pos (by omega), if_pos (by omega), if_pos (by first | assumption | omega)]) | (unfold zentF zent; rw [if_pos (by omega), if_pos (by omega), if_neg (by first | assumption | omega), if_pos (by omega)]) | (unfold zentF zent; rw [if_pos (by omega), if_pos (by omega), if_neg (by first | assumption | omega), if_neg (by omega)])
  ·
    refine xg_step rfl rfl (fun k => rfl) ?_
    refine xg_step rfl rfl (fun k => rfl) ?_
    refine xg_step rfl rfl (fun k => rfl) ?_
    refine xg_step rfl rfl (fun k => rfl) ?_
    refine xg_step rfl rfl (fun k => rfl) ?_
    refine xg_step rfl rfl (fun k => rfl) ?_
    refine xg_step rfl rfl (fun k => rfl) ?_
    refine zg_cvb rfl rfl rfl (Nat.le_of_ble_eq_true rfl) (zha (by decide)) zc_Book rfl rfl (zr_12 hA hcN hs hkd hv ha hb) (fun hc => ?_) (fun hc => ?_)
    ·
      refine xg_step rfl rfl (fun k => rfl) ?_
      refine xg_step rfl rfl (fun k => rfl) ?_
      refine xg_step rfl rfl (fun k => rfl) ?_
      refine xg_step rfl rfl (fun k => rfl) ?_
      refine xg_step rfl rfl (fun k => rfl) ?_
      refine xg_step rfl rfl (fun k => rfl) ?_
      refine xg_step rfl rfl (fun k => rfl) ?_
      refine zg_cvi rfl rfl rfl (Nat.le_of_ble_eq_true rfl) (zha (by omega)) (zc_Counter hs) rfl rfl (zr_22 hs hA ⟨by omega, by omega⟩ ⟨by omega, by omega⟩ ⟨by omega, by omega⟩ ⟨by omega, by omega⟩ ⟨by omega, by omega⟩ (by omega)) ?_
      refine xg_step rfl rfl (fun k => rfl) ?_
      refine xg_step rfl rfl (fun k => rfl) ?_
      refine xg_step rfl rfl (fun k => rfl) ?_
      refine zg_eq rfl rfl (fun x y k => rfl) (by first | assumption | exact hA _ _ | exact hB _ _ | exact zrg_max (by assumption) (hA _ _) | (constructor <;> omega)) (by first | assumption | exact hA _ _ | exact hB _ _ | exact zrg_max (by assumption) (hA _ _) | (constructor <;> omega)) (fun hc => ?_) (fun hc => ?_)
      ·
        refine xg_step rfl rfl (fun k => rfl) ?_
        refine xg_step rfl rfl (fun k => rfl) ?_
        refine xg_step rfl rfl (fun k => rfl) ?_
        refine zg_iret rfl rfl zfitI ?_
        first | (rw [if_neg (by omega)]; unfold zentF; rw [if_neg (by omega)]) | (unfold zentF zent; rw [if_pos (by omega), if_pos (by omega), if_pos (by first | assumption | omega)]) | (unfold zentF zent; rw [if_pos (by omega), if_pos (by omega), if_neg (by first | assumption | omega), if_pos (by omega)]) | (unfold zentF zent; rw [if_pos (by omega), if_pos (by omega), if_neg (by first | assumption | omega), if_neg (by omega)])
      ·
        refine xg_step rfl rfl (fun k => rfl) ?_
        refine zg_iret rfl rfl zfitI ?_
        first | (rw [if_neg (by omega)]; unfold zentF; rw [if_neg (by omega)]) | (unfold zentF zent; rw [if_pos (by omega), if_pos (by omega), if_pos (by first | assumption | omega)]) | (unfold zentF zent; rw [if_pos (by omega), if_pos (by omega), if_neg (by first | assumption | omega), if_pos (by omega)]) | (unfold zentF zent; rw [if_pos (by omega), if_pos (by omega), if_neg (by first | assumption | omega), if_neg (by omega)])
    ·
      refine xg_step rfl rfl (fun k => rfl) ?_
      refine xg_step rfl rfl (fun k => rfl) ?_
      refine xg_step rfl rfl (fun k => rfl) ?_
      refine xg_step rfl rfl (fun k => rfl) ?_
      refine xg_step rfl rfl (fun k => rfl) ?_
      refine xg_step rfl rfl (fun k => rfl) ?_
      refine xg_step rfl rfl (fun k => rfl) ?_
      refine zg_cvi rfl rfl rfl (Nat.le_of_ble_eq_true rfl) (zha (by omega)) (zc_Counter hs) rfl rfl (zr_22 hs hA ⟨by omega, by omega⟩ ⟨by omega, by omega⟩ ⟨by omega, by omega⟩ ⟨by omega, by omega⟩ ⟨by omega, by omega⟩ (by omega)) ?_
      refine xg_step rfl rfl (fun k => rfl) ?_
      refine xg_step rfl rfl (fun k => rfl) ?_
      refine xg_step rfl rfl (fun k => rfl) ?_
      refine zg_eq rfl rfl (fun x y k => rfl) (by first | assumption | exact hA _ _ | exact hB _ _ | exact zrg_max (by assumption) (hA _ _) | (constructor <;> omega)) (by first | assumption | exact hA _ _ | exact hB _ _ | exact zrg_max (by assumption) (hA _ _) | (constructor <;> omega)) (fun hc => ?_) (fun hc => ?_)
      ·
        refine xg_step rfl rfl (fun k => rfl) ?_
        refine xg_step rfl rfl (fun k => rfl) ?_
        refine xg_step rfl rfl (fun k => rfl) ?_
        refine xg_get rfl rfl (zha (by decide)) zc_Book rfl rfl ?_
        refine xg_step rfl rfl (fun k => rfl) ?_
        refine zg_ald (x := A 10 v) (.inl ⟨rfl, rfl⟩) (zha (by decide)) zc_openings (by decide) ⟨by omega, by omega⟩ ((congrFun (zadd_row (by omega) (by omega)) v)) ?_
        refine zg_eq0 rfl rfl (fun x k => rfl) (by first | assumption | exact hA _ _ | exact hB _ _ | exact zrg_max (by assumption) (hA _ _) | (constructor <;> omega)) (fun hc => ?_) (fun hc => ?_)
        ·
          refine xg_step rfl rfl (fun k => rfl) ?_
          refine xg_get rfl rfl (zha (by decide)) zc_Book rfl rfl ?_
          refine xg_step rfl rfl (fun k => rfl) ?_
          refine xg_step rfl rfl (fun k => rfl) ?_
          refine zg_ast (.inl ⟨rfl, rfl⟩) (zha (by decide)) zc_openings (by decide) ⟨by omega, by omega⟩ (zhwA (by omega) zw_openings) ?_
          refine xg_step rfl rfl (fun k => rfl) ?_
          refine xg_step rfl rfl (fun k => rfl) ?_
          refine xg_step rfl rfl (fun k => rfl) ?_
          refine xg_step rfl rfl (fun k => rfl) ?_
          refine zg_cvv rfl rfl rfl (Nat.le_of_ble_eq_true rfl) (zha (by decide)) zc_Book rfl rfl (zr_13 (hM (by omega)) (hcM (by omega)) (by omega) ha hb (by rw [hM2]; omega) (by rw [hM2]; omega) (by rw [hM2, hM1, hM11]; exact g5)) ?_
          refine xg_step rfl rfl (fun k => rfl) ?_
          refine zg_iret rfl rfl zfitI ?_
          first | (rw [if_neg (by omega)]; unfold zentF; rw [if_neg (by omega)]) | (unfold zentF zent; rw [if_pos (by omega), if_pos (by omega), if_pos (by first | assumption | omega)]) | (unfold zentF zent; rw [if_pos (by omega), if_pos (by omega), if_neg (by first | assumption | omega), if_pos (by omega)]) | (unfold zentF zent; rw [if_pos (by omega), if_pos (by omega), if_neg (by first | assumption | omega), if_neg (by omega)])
        ·
          refine xg_step rfl rfl (fun k => rfl) ?_
          refine zg_iret rfl rfl zfitI ?_
          first | (rw [if_neg (by omega)]; unfold zentF; rw [if_neg (by omega)]) | (unfold zentF zent; rw [if_pos (by omega), if_pos (by omega), if_pos (by first | assumption | omega)]) | (unfold zentF zent; rw [if_pos (by omega), if_pos (by omega), if_neg (by first | assumption | omega), if_pos (by omega)]) | (unfold zentF zent; rw [if_pos (by omega), if_pos (by omega), if_neg (by first | assumption | omega), if_neg (by omega)])
      ·
        refine xg_step rfl rfl (fun k => rfl) ?_
        refine zg_iret rfl rfl zfitI ?_
        first | (rw [if_neg (by omega)]; unfold zentF; rw [if_neg (by omega)]) | (unfold zentF zent; rw [if_pos (by omega), if_pos (by omega), if_pos (by first | assumption | omega)]) | (unfold zentF zent; rw [if_pos (by omega), if_pos (by omega), if_neg (by first | assumption | omega), if_pos (by omega)]) | (unfold zentF zent; rw [if_pos (by omega), if_pos (by omega), if_neg (by first | assumption | omega), if_neg (by omega)])
